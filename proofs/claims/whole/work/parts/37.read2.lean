set_option maxHeartbeats 4000000 in
set_option maxRecDepth 100000 in
theorem c_X1_readQ_2 (l : Launch) (D : va_G) (cI cJ : ClassId) (ad : Nat → Nat) (bd : Nat → Nat) (h : Nat) (hl9 : Nat) (ht : Nat) (hc : Nat) (hst : Nat) (L : Nat) (u : Nat) (T : Nat → Nat) (TB : Nat → Int32) (p : Nat) (c : Nat) (C : Nat → Int32) (b : Bool) (q : Nat) (tl : zTks) (hL : L ≤ 60) (hu1 : u ≤ 1) (hT : ∀ i, i < L → T i < 256) (htb : ∀ i, i < L → TB i = nI (T i)) (hp : p ≤ L) (hcp : c ≤ p) (hR : zQ T L u 3 p = (b, q, tl)) : zTi ad bd l yX1_readQ wsX1_readQ ({ frames := 37, cells := 0, slots := 0, locals := 865 } : Room) D [(cI, .int), (cJ, .array .int)] [.ref h, .int (nI 2)] [(h, .inr (1, [.ref hl9, .ref ht, .int (nI L), .ref (ad u), .int (nI p)])), (hl9, .inr (0, [.ref hc, .int (nI c), .ref hst])), (hc, .inl (cI, 60, .inl C)), (ht, .inl (cI, 60, .inl TB))] (fun r w => ∃ (c9 : Nat) (C9 : Nat → Int32), c9 ≤ q ∧ (b = true → c9 = c + tl.length ∧ C9 = zapp C c tl) ∧ r = bI (b = true) ∧ w = [(h, .inr (1, [.ref hl9, .ref ht, .int (nI L), .ref (ad u), .int (nI q)])), (hl9, .inr (0, [.ref hc, .int (nI c9), .ref hst])), (hc, .inl (cI, 60, .inl C9)), (ht, .inl (cI, 60, .inl TB))]) := by
  refine zTi.start (cc := cX1_readQ) (maxL := 4) (rt := .boolean) (by first | decide | decide +kernel) rfl (Nat.le_of_ble_eq_true rfl) ?_
  intro pg ev s mt args below meth cd ls AA QQ ⟨hx, hb, hml, hr, hlocks, hown, hts, hK, hN, hZ, hP, hD, hA, hS, hl⟩ hG hret
  have hown : s.vm.findClass RX1 = some mt.cls := hown
  have hl : lv_has ls 4 [(0, .ref h), (1, .int (nI 2))] := hl
  have hin0 : ∀ w ∈ wsX00, w ∈ wsX1_readQ := fun w h => List.mem_cons_of_mem _ (List.mem_append_right _ (h))
  have hin1 : ∀ w ∈ wsX10, w ∈ wsX1_readQ := fun w h => List.mem_cons_of_mem _ (List.mem_append_left _ (List.mem_append_right _ (h)))
  have hR : zQb T L u true (zQ T L u 2) (zLS T L (zQ T L u 2) 5) p = (b, q, tl) := hR
  refine lv_aload_n hx hb dX1_readQ_0 rfl (lv_at hl 0 rfl) ?_
  refine va_get (ci := 1) (v := .int (nI p)) (C := RX1) (T := TX1) (N := 5) hx hb hts hin1 hown hK hP 0 rfl rfl 4 (by decide) (hts (.fieldLink RX1 32 "UpAllRound$Reader" "place" "I") (List.mem_of_getElem? (i := 1) rfl)) (fun _ h9 => h9) rfl dX1_readQ_1 ?_
  refine lv_aload_n hx hb dX1_readQ_4 rfl (lv_at hl 0 rfl) ?_
  refine va_get (ci := 1) (v := .int (nI L)) (C := RX1) (T := TX1) (N := 5) hx hb hts hin1 hown hK hP 0 rfl rfl 2 (by decide) (hts (.fieldLink RX1 22 "UpAllRound$Reader" "length" "I") (List.mem_of_getElem? (i := 2) rfl)) (fun _ h9 => h9) rfl dX1_readQ_5 ?_
  refine lv_icmp_lt (tgt := 13) hx hb dX1_readQ_8 (by decide) (fun c8_1 => ?_) (fun c8_1 => ?_)
  · have c8_1 : p < L := (nI_ltI (a := p) (b := L) (by omega) (by omega)).mp c8_1
    refine lv_aload_n hx hb dX1_readQ_13 rfl (lv_at hl 0 rfl) ?_
    refine va_get (ci := 1) (v := .ref ht) (C := RX1) (T := TX1) (N := 5) hx hb hts hin1 hown hK hP 0 rfl rfl 1 (by decide) (hts (.fieldLink RX1 18 "UpAllRound$Reader" "tape" "[I") (List.mem_of_getElem? (i := 3) rfl)) (fun _ h9 => h9) rfl dX1_readQ_14 ?_
    refine lv_aload_n hx hb dX1_readQ_17 rfl (lv_at hl 0 rfl) ?_
    refine va_get (ci := 1) (v := .int (nI p)) (C := RX1) (T := TX1) (N := 5) hx hb hts hin1 hown hK hP 0 rfl rfl 4 (by decide) (hts (.fieldLink RX1 32 "UpAllRound$Reader" "place" "I") (List.mem_of_getElem? (i := 1) rfl)) (fun _ h9 => h9) rfl dX1_readQ_18 ?_
    refine zald (t := p) hx hb hK hP 3 rfl (by omega) (by decide) dX1_readQ_21 ?_
    refine zrw (htb p (by omega)) ?_
    refine lv_istore_n (lv' := [(2, .int (nI (T p))), (0, .ref h), (1, .int (nI 2))]) hx hb dX1_readQ_22 rfl hl (by decide) rfl (fun ls hl => ?_)
    refine lv_iload_n hx hb dX1_readQ_23 rfl (lv_at hl 0 rfl) ?_
    refine zcsE (va_runS (As := [.int (nI (T p))]) (rest := []) ⟨hx, hb, hml, hown, hts⟩ (c_X1_isDigit l D cI cJ (T p) (hT p (by omega)) s.heap.size) (va_cwS 1 hts gX1_readQ_X1_isDigit rfl rfl rfl (by decide +kernel) ⟨Nat.le_of_ble_eq_true rfl, Nat.le_of_ble_eq_true rfl⟩) (zpS hK hN hZ hP hD hS hA [] rfl (by decide)) rfl rfl hl.1 rfl (lv_room (Nat.le_of_ble_eq_true rfl)) dX1_readQ_24 ⟨Nat.zero_le _, Nat.zero_le _⟩) ?_
    refine lv_if_eq (tgt := 36) hx hb dX1_readQ_27 (by decide) (fun c27_2 => ?_) (fun c27_2 => ?_)
    · have c27_2 := bI_0.mp c27_2
      refine lv_aload_n hx hb dX1_readQ_36 rfl (lv_at hl 1 rfl) ?_
      refine va_get (ci := 1) (v := .ref (ad u)) (C := RX1) (T := TX1) (N := 5) hx hb hts hin1 hown hK hP 0 rfl rfl 3 (by decide) (hts (.fieldLink RX1 28 "UpAllRound$Reader" "names" "Ljava/lang/String;") (List.mem_of_getElem? (i := 4) rfl)) (fun _ h9 => h9) rfl dX1_readQ_37 ?_
      refine lv_iload_n hx hb dX1_readQ_40 rfl (lv_at hl 0 rfl) ?_
      refine lv_i2c (v := nI (T p)) hx hb dX1_readQ_41 (zi2c _ (hT p (by omega))) ?_
      refine zcsE (va_runV (As := [.int (nI (T p))]) (rest := []) ⟨hx, hb, hml, hown, hts⟩ (c_J0_indexOf l D cI cJ ad bd u ((T p)) (by first | rfl | assumption | omega) (hT p (by omega)) s.heap.size) (cwV 1 hts gX1_readQ_J0_indexOf_0f7a4 rfl rfl rfl (by decide +kernel) ⟨Nat.le_of_ble_eq_true rfl, Nat.le_of_ble_eq_true rfl⟩) (zpVk (show u < 3 by omega) rfl hG hK hN hZ hP hD hS hA [] rfl (by decide)) rfl rfl hl.1 rfl (lv_room (Nat.le_of_ble_eq_true rfl)) dX1_readQ_42 ⟨Nat.zero_le _, Nat.zero_le _⟩) ?_
      rcases hnx : znx u (T p) with _ | j
      · refine zrw (show zbw none = (-1) from rfl) ?_
        refine lv_istore_n (lv' := [(3, .int ((-1))), (2, .int (nI (T p))), (0, .ref h), (1, .int (nI 2))]) hx hb dX1_readQ_45 rfl hl (by decide) rfl (fun ls hl => ?_)
        refine lv_iload_n hx hb dX1_readQ_46 rfl (lv_at hl 0 rfl) ?_
        refine lv_if_lt (tgt := 72) hx hb dX1_readQ_47 (by decide) (fun c47_3 => ?_) (fun c47_3 => ?_)
        · refine lv_iload_n hx hb dX1_readQ_72 rfl (lv_at hl 1 rfl) ?_
          refine lv_bipush (v := nI 33) hx hb dX1_readQ_73 (by decide) ?_
          refine lv_icmp_eq (tgt := 84) hx hb dX1_readQ_75 (by decide) (fun c75_4 => ?_) (fun c75_4 => ?_)
          · have c75_4 : (T p) = 33 := (nI_eq (a := T p) (b := 33) (by have h91 := hT p (by omega); omega) (by have h91 := hT p (by omega); omega)).mp c75_4
            refine lv_iload_n hx hb dX1_readQ_84 rfl (lv_at hl 3 rfl) ?_
            refine lv_iconst (v := nI 5) hx hb dX1_readQ_85 (by decide) ?_
            refine lv_icmp_lt (tgt := 91) hx hb dX1_readQ_86 (by decide) (fun c86_5 => ?_) (fun c86_5 => ?_)
            · have c86_5 : 2 < 5 := (nI_ltI (a := 2) (b := 5) (by omega) (by omega)).mp c86_5
              refine lv_aload_n hx hb dX1_readQ_91 rfl (lv_at hl 2 rfl) ?_
              refine lv_dup hx hb dX1_readQ_92 rfl ?_
              refine va_get (ci := 1) (v := .int (nI p)) (C := RX1) (T := TX1) (N := 5) hx hb hts hin1 hown hK hP 0 rfl rfl 4 (by decide) (hts (.fieldLink RX1 32 "UpAllRound$Reader" "place" "I") (List.mem_of_getElem? (i := 1) rfl)) (fun _ h9 => h9) rfl dX1_readQ_93 ?_
              refine lv_iconst (v := nI 1) hx hb dX1_readQ_96 (by decide) ?_
              refine lv_iadd hx hb dX1_readQ_97 ?_
              refine zrw (nI_add _ _) ?_
              refine va_put (ci := 1) (v := .int (nI (p + 1))) (ty := .int) (C := RX1) (T := TX1) (N := 5) hx hb hts hin1 tyX1 tyX1_ok nmX1 hown hK hP hD hS 0 rfl rfl 4 (by decide) (hts (.fieldLink RX1 32 "UpAllRound$Reader" "place" "I") (List.mem_of_getElem? (i := 1) rfl)) (fun _ h9 => h9) rfl (by decide +kernel) rfl rfl (Nat.le_of_ble_eq_true rfl) dX1_readQ_98 (fun H locs hP hD hS => ?_)
              have hP : va_P D vwCl [(h, .inr (1, [.ref hl9, .ref ht, .int (nI L), .ref (ad u), .int (nI (p + 1))])), (hl9, .inr (0, [.ref hc, .int (nI c), .ref hst])), (hc, .inl (cI, 60, .inl C)), (ht, .inl (cI, 60, .inl TB))] H := hP
              have hD : va_D AA [(h, .inr (1, [.ref hl9, .ref ht, .int (nI L), .ref (ad u), .int (nI (p + 1))])), (hl9, .inr (0, [.ref hc, .int (nI c), .ref hst])), (hc, .inl (cI, 60, .inl C)), (ht, .inl (cI, 60, .inl TB))] := hD
              refine lv_iload_n hx hb dX1_readQ_101 rfl (lv_at hl 1 rfl) ?_
              refine lv_bipush (v := nI 33) hx hb dX1_readQ_102 (by decide) ?_
              refine lv_icmp_ne (tgt := 117) hx hb dX1_readQ_104 (by decide) (fun c104_6 => ?_) (fun c104_6 => ?_)
              · have c104_6 : ¬ ((T p) = 33) := fun h9 => c104_6 ((nI_eq (a := T p) (b := 33) (by have h91 := hT p (by omega); omega) (by have h91 := hT p (by omega); omega)).mpr h9)
                obtain ⟨b1, q1, t1, hR1⟩ : ∃ (b0 : Bool) (q0 : Nat) (t0 : zTks), zLS T L (zQ T L u 2) 5 (p + 1) = (b0, q0, t0) := ⟨_, _, _, rfl⟩
                have hg1 := (zLS_gd (T := T) (zQ_gd (T := T) (L := L) (u := u) 2) 5) (p + 1) (by omega)
                rw [hR1] at hg1
                obtain ⟨hga1, hgb1, hgc1⟩ : (p + 1) ≤ q1 ∧ q1 ≤ L ∧ (b1 = true → (p + 1) < q1 ∧ t1.length ≤ q1 - (p + 1) ∧ zw1 t1) := hg1
                refine lv_aload_n hx hb dX1_readQ_117 rfl (lv_at hl 2 rfl) ?_
                refine lv_iconst (v := nI 0) hx hb dX1_readQ_118 (by decide) ?_
                refine lv_iload_n hx hb dX1_readQ_119 rfl (lv_at hl 3 rfl) ?_
                refine lv_iconst (v := nI 1) hx hb dX1_readQ_120 (by decide) ?_
                refine lv_iadd hx hb dX1_readQ_121 ?_
                refine zrw (nI_add _ _) ?_
                refine zci (wr := []) (va_runV (As := [.int (nI 0), .int (nI 3)]) (rest := []) ⟨hx, hb, hml, hown, hts⟩ (c_X1_readLevel_0_3 l D cI cJ ad bd h hl9 ht hc hst L u T TB (p + 1) c C b1 q1 t1 (by first | rfl | assumption | omega) (by first | rfl | assumption | omega) (by first | rfl | assumption | omega) (by first | rfl | assumption | omega) (by omega) (by omega) hR1 H.size) (cwV 2 hts gX1_readQ_X1_readLevel rfl rfl rfl (by decide +kernel) ⟨Nat.le_of_ble_eq_true rfl, Nat.le_of_ble_eq_true rfl⟩) (zpVs hG hK hN hZ hP hD hS hA [0, 1, 2, 3] rfl (by decide) 0 rfl rfl rfl) rfl rfl hl.1 rfl (lv_room (Nat.le_of_ble_eq_true rfl)) dX1_readQ_122 ⟨Nat.zero_le _, Nat.zero_le _⟩) hP hD hS hA [0, 1, 2, 3] [] rfl rfl (by decide) (by decide) (fun r_9 w_8 H locs h_7 hP hD hS => ?_)
                obtain ⟨c9_10, C9_11, hq9_12, hx9_13, rfl, rfl⟩ := h_7
                have hP : va_P D vwCl [(h, .inr (1, [.ref hl9, .ref ht, .int (nI L), .ref (ad u), .int (nI q1)])), (hl9, .inr (0, [.ref hc, .int (nI c9_10), .ref hst])), (hc, .inl (cI, 60, .inl C9_11)), (ht, .inl (cI, 60, .inl TB))] H := hP
                have hD : va_D AA [(h, .inr (1, [.ref hl9, .ref ht, .int (nI L), .ref (ad u), .int (nI q1)])), (hl9, .inr (0, [.ref hc, .int (nI c9_10), .ref hst])), (hc, .inl (cI, 60, .inl C9_11)), (ht, .inl (cI, 60, .inl TB))] := hD
                refine lv_if_eq (tgt := 139) hx hb dX1_readQ_125 (by decide) (fun c125_14 => ?_) (fun c125_14 => ?_)
                · have c125_14 := bI_0.mp c125_14
                  refine lv_iconst (v := nI 0) hx hb dX1_readQ_139 (by decide) ?_
                  exact hret hP hD hS dX1_readQ_140 rfl (by obtain ⟨e1, e2⟩ := zq_pf hR (by omega) (by assumption) hnx (by omega) hR1 (fun h9 => absurd h9.1 (by assumption)); subst e1; subst e2; exact ⟨_, _, hq9_12, fun h9 => (by cases h9), (bI_f (by decide)).symm, rfl⟩)
                · have c125_14 := bI_n0.mp c125_14
                  obtain ⟨hgd1, hge1, hgf1⟩ := hgc1 c125_14
                  obtain ⟨he1, hE1⟩ := hx9_13 c125_14
                  subst he1; subst hE1
                  refine lv_aload_n hx hb dX1_readQ_128 rfl (lv_at hl 2 rfl) ?_
                  refine zci (wr := []) (va_runV (As := []) (rest := []) ⟨hx, hb, hml, hown, hts⟩ (c_X1_readClose l D cI cJ ad bd h hl9 ht hc hst L u T TB q1 ((c + t1.length)) (zapp C c t1) (by first | rfl | assumption | omega) (by first | rfl | assumption | omega) (by first | rfl | assumption | omega) (by first | rfl | assumption | omega) (by first | rfl | assumption | omega) H.size) (cwV 0 hts gX1_readQ_X1_readClose rfl rfl rfl (by decide +kernel) ⟨Nat.le_of_ble_eq_true rfl, Nat.le_of_ble_eq_true rfl⟩) (zpV hK hN hZ hP hD hS hA [0, 1, 2, 3] rfl (by decide) 0 rfl rfl rfl) rfl rfl hl.1 rfl (lv_room (Nat.le_of_ble_eq_true rfl)) dX1_readQ_129 ⟨Nat.zero_le _, Nat.zero_le _⟩) hP hD hS hA [0, 1, 2, 3] [] rfl rfl (by decide) (by decide) (fun r_17 w_16 H locs h_15 hP hD hS => ?_)
                  obtain ⟨rfl, rfl⟩ := h_15
                  have hP : va_P D vwCl [(h, .inr (1, [.ref hl9, .ref ht, .int (nI L), .ref (ad u), .int (nI ((if (q1 < L ∧ T q1 = 41) then q1 + 1 else q1)))])), (hl9, .inr (0, [.ref hc, .int (nI (((c + t1.length)))), .ref hst])), (hc, .inl (cI, 60, .inl ((zapp C c t1)))), (ht, .inl (cI, 60, .inl TB))] H := hP
                  have hD : va_D AA [(h, .inr (1, [.ref hl9, .ref ht, .int (nI L), .ref (ad u), .int (nI ((if (q1 < L ∧ T q1 = 41) then q1 + 1 else q1)))])), (hl9, .inr (0, [.ref hc, .int (nI (((c + t1.length)))), .ref hst])), (hc, .inl (cI, 60, .inl ((zapp C c t1)))), (ht, .inl (cI, 60, .inl TB))] := hD
                  refine lv_if_eq (tgt := 139) hx hb dX1_readQ_132 (by decide) (fun c132_18 => ?_) (fun c132_18 => ?_)
                  · have c132_18 := bI_0.mp c132_18
                    rw [if_neg c132_18] at hP hD
                    have hP : va_P D vwCl [(h, .inr (1, [.ref hl9, .ref ht, .int (nI L), .ref (ad u), .int (nI q1)])), (hl9, .inr (0, [.ref hc, .int (nI (((c + t1.length)))), .ref hst])), (hc, .inl (cI, 60, .inl ((zapp C c t1)))), (ht, .inl (cI, 60, .inl TB))] H := hP
                    have hD : va_D AA [(h, .inr (1, [.ref hl9, .ref ht, .int (nI L), .ref (ad u), .int (nI q1)])), (hl9, .inr (0, [.ref hc, .int (nI (((c + t1.length)))), .ref hst])), (hc, .inl (cI, 60, .inl ((zapp C c t1)))), (ht, .inl (cI, 60, .inl TB))] := hD
                    refine lv_iconst (v := nI 0) hx hb dX1_readQ_139 (by decide) ?_
                    exact hret hP hD hS dX1_readQ_140 rfl (by obtain ⟨e1, e2⟩ := zq_pf hR (by omega) (by assumption) hnx (by omega) hR1 (fun h9 => absurd h9.2 (by assumption)); subst e1; subst e2; exact ⟨_, _, by omega, fun h9 => (by cases h9), (bI_f (by decide)).symm, rfl⟩)
                  · have c132_18 := bI_n0.mp c132_18
                    rw [if_pos c132_18] at hP hD
                    have hP : va_P D vwCl [(h, .inr (1, [.ref hl9, .ref ht, .int (nI L), .ref (ad u), .int (nI (q1 + 1))])), (hl9, .inr (0, [.ref hc, .int (nI (((c + t1.length)))), .ref hst])), (hc, .inl (cI, 60, .inl ((zapp C c t1)))), (ht, .inl (cI, 60, .inl TB))] H := hP
                    have hD : va_D AA [(h, .inr (1, [.ref hl9, .ref ht, .int (nI L), .ref (ad u), .int (nI (q1 + 1))])), (hl9, .inr (0, [.ref hc, .int (nI (((c + t1.length)))), .ref hst])), (hc, .inl (cI, 60, .inl ((zapp C c t1)))), (ht, .inl (cI, 60, .inl TB))] := hD
                    refine lv_iconst (v := nI 1) hx hb dX1_readQ_135 (by decide) ?_
                    refine lv_goto (tgt := 140) hx hb dX1_readQ_136 (by decide) ?_
                    exact hret hP hD hS dX1_readQ_140 rfl (by obtain ⟨e1, e2, e3⟩ := zq_pt hR (by omega) (by assumption) hnx (by omega) hR1 (by assumption) (by assumption); subst e1; subst e2; subst e3; exact ⟨_, _, by omega, fun _ => ⟨rfl, rfl⟩, (bI_t rfl).symm, rfl⟩)
              · have c104_6 : (T p) = 33 := (nI_eq (a := T p) (b := 33) (by have h91 := hT p (by omega); omega) (by have h91 := hT p (by omega); omega)).mp c104_6
                obtain ⟨b1, q1, t1, hR1⟩ : ∃ (b0 : Bool) (q0 : Nat) (t0 : zTks), zQ T L u 2 (p + 1) = (b0, q0, t0) := ⟨_, _, _, rfl⟩
                have hg1 := (zQ_gd (T := T) (L := L) (u := u) 2) (p + 1) (by omega)
                rw [hR1] at hg1
                obtain ⟨hga1, hgb1, hgc1⟩ : (p + 1) ≤ q1 ∧ q1 ≤ L ∧ (b1 = true → (p + 1) < q1 ∧ t1.length ≤ q1 - (p + 1) ∧ zw1 t1) := hg1
                refine lv_aload_n hx hb dX1_readQ_107 rfl (lv_at hl 2 rfl) ?_
                refine lv_iload_n hx hb dX1_readQ_108 rfl (lv_at hl 3 rfl) ?_
                refine lv_iconst (v := nI 1) hx hb dX1_readQ_109 (by decide) ?_
                refine lv_iadd hx hb dX1_readQ_110 ?_
                refine zrw (nI_add _ _) ?_
                refine zci (wr := []) (va_runV (As := [.int (nI 3)]) (rest := []) ⟨hx, hb, hml, hown, hts⟩ (c_X1_readNot_3 l D cI cJ ad bd h hl9 ht hc hst L u T TB (p + 1) c C b1 q1 t1 (by first | rfl | assumption | omega) (by first | rfl | assumption | omega) (by first | rfl | assumption | omega) (by first | rfl | assumption | omega) (by omega) (by omega) hR1 H.size) (cwV 1 hts gX1_readQ_X1_readNot rfl rfl rfl (by decide +kernel) ⟨Nat.le_of_ble_eq_true rfl, Nat.le_of_ble_eq_true rfl⟩) (zpVs hG hK hN hZ hP hD hS hA [0, 1, 2, 3] rfl (by decide) 0 rfl rfl rfl) rfl rfl hl.1 rfl (lv_room (Nat.le_of_ble_eq_true rfl)) dX1_readQ_111 ⟨Nat.zero_le _, Nat.zero_le _⟩) hP hD hS hA [0, 1, 2, 3] [] rfl rfl (by decide) (by decide) (fun r_21 w_20 H locs h_19 hP hD hS => ?_)
                obtain ⟨c9_22, C9_23, hq9_24, hx9_25, rfl, rfl⟩ := h_19
                have hP : va_P D vwCl [(h, .inr (1, [.ref hl9, .ref ht, .int (nI L), .ref (ad u), .int (nI q1)])), (hl9, .inr (0, [.ref hc, .int (nI c9_22), .ref hst])), (hc, .inl (cI, 60, .inl C9_23)), (ht, .inl (cI, 60, .inl TB))] H := hP
                have hD : va_D AA [(h, .inr (1, [.ref hl9, .ref ht, .int (nI L), .ref (ad u), .int (nI q1)])), (hl9, .inr (0, [.ref hc, .int (nI c9_22), .ref hst])), (hc, .inl (cI, 60, .inl C9_23)), (ht, .inl (cI, 60, .inl TB))] := hD
                refine lv_goto (tgt := 140) hx hb dX1_readQ_114 (by decide) ?_
                exact hret hP hD hS dX1_readQ_140 nar_bI (by obtain ⟨e1, e2, e3⟩ := zq_not hR (by omega) (by assumption) hnx (by omega) hR1; subst e1; subst e2; exact ⟨_, _, hq9_24, fun h9 => by rw [e3 h9]; exact hx9_25 h9, rfl, rfl⟩)
            · have c86_5 : ¬ (2 < 5) := fun h9 => c86_5 ((nI_ltI (a := 2) (b := 5) (by omega) (by omega)).mpr h9)
              exact absurd c86_5 (by omega)
          · have c75_4 : ¬ ((T p) = 33) := fun h9 => c75_4 ((nI_eq (a := T p) (b := 33) (by have h91 := hT p (by omega); omega) (by have h91 := hT p (by omega); omega)).mpr h9)
            refine lv_iload_n hx hb dX1_readQ_78 rfl (lv_at hl 1 rfl) ?_
            refine lv_bipush (v := nI 40) hx hb dX1_readQ_79 (by decide) ?_
            refine lv_icmp_ne (tgt := 89) hx hb dX1_readQ_81 (by decide) (fun c81_26 => ?_) (fun c81_26 => ?_)
            · have c81_26 : ¬ ((T p) = 40) := fun h9 => c81_26 ((nI_eq (a := T p) (b := 40) (by have h91 := hT p (by omega); omega) (by have h91 := hT p (by omega); omega)).mpr h9)
              refine lv_iconst (v := nI 0) hx hb dX1_readQ_89 (by decide) ?_
              exact hret hP hD hS dX1_readQ_90 rfl (by obtain ⟨e1, e2⟩ := zq_z hR (by omega) (by assumption) hnx (fun h9 => by have h91 := h9.1; omega) (fun h9 => by have h91 := h9.1; omega); subst e1; subst e2; exact ⟨_, _, hcp, fun h9 => (by cases h9), (bI_f (by decide)).symm, rfl⟩)
            · have c81_26 : (T p) = 40 := (nI_eq (a := T p) (b := 40) (by have h91 := hT p (by omega); omega) (by have h91 := hT p (by omega); omega)).mp c81_26
              refine lv_iload_n hx hb dX1_readQ_84 rfl (lv_at hl 3 rfl) ?_
              refine lv_iconst (v := nI 5) hx hb dX1_readQ_85 (by decide) ?_
              refine lv_icmp_lt (tgt := 91) hx hb dX1_readQ_86 (by decide) (fun c86_27 => ?_) (fun c86_27 => ?_)
              · have c86_27 : 2 < 5 := (nI_ltI (a := 2) (b := 5) (by omega) (by omega)).mp c86_27
                refine lv_aload_n hx hb dX1_readQ_91 rfl (lv_at hl 2 rfl) ?_
                refine lv_dup hx hb dX1_readQ_92 rfl ?_
                refine va_get (ci := 1) (v := .int (nI p)) (C := RX1) (T := TX1) (N := 5) hx hb hts hin1 hown hK hP 0 rfl rfl 4 (by decide) (hts (.fieldLink RX1 32 "UpAllRound$Reader" "place" "I") (List.mem_of_getElem? (i := 1) rfl)) (fun _ h9 => h9) rfl dX1_readQ_93 ?_
                refine lv_iconst (v := nI 1) hx hb dX1_readQ_96 (by decide) ?_
                refine lv_iadd hx hb dX1_readQ_97 ?_
                refine zrw (nI_add _ _) ?_
                refine va_put (ci := 1) (v := .int (nI (p + 1))) (ty := .int) (C := RX1) (T := TX1) (N := 5) hx hb hts hin1 tyX1 tyX1_ok nmX1 hown hK hP hD hS 0 rfl rfl 4 (by decide) (hts (.fieldLink RX1 32 "UpAllRound$Reader" "place" "I") (List.mem_of_getElem? (i := 1) rfl)) (fun _ h9 => h9) rfl (by decide +kernel) rfl rfl (Nat.le_of_ble_eq_true rfl) dX1_readQ_98 (fun H locs hP hD hS => ?_)
                have hP : va_P D vwCl [(h, .inr (1, [.ref hl9, .ref ht, .int (nI L), .ref (ad u), .int (nI (p + 1))])), (hl9, .inr (0, [.ref hc, .int (nI c), .ref hst])), (hc, .inl (cI, 60, .inl C)), (ht, .inl (cI, 60, .inl TB))] H := hP
                have hD : va_D AA [(h, .inr (1, [.ref hl9, .ref ht, .int (nI L), .ref (ad u), .int (nI (p + 1))])), (hl9, .inr (0, [.ref hc, .int (nI c), .ref hst])), (hc, .inl (cI, 60, .inl C)), (ht, .inl (cI, 60, .inl TB))] := hD
                refine lv_iload_n hx hb dX1_readQ_101 rfl (lv_at hl 1 rfl) ?_
                refine lv_bipush (v := nI 33) hx hb dX1_readQ_102 (by decide) ?_
                refine lv_icmp_ne (tgt := 117) hx hb dX1_readQ_104 (by decide) (fun c104_28 => ?_) (fun c104_28 => ?_)
                · have c104_28 : ¬ ((T p) = 33) := fun h9 => c104_28 ((nI_eq (a := T p) (b := 33) (by have h91 := hT p (by omega); omega) (by have h91 := hT p (by omega); omega)).mpr h9)
                  obtain ⟨b1, q1, t1, hR1⟩ : ∃ (b0 : Bool) (q0 : Nat) (t0 : zTks), zLS T L (zQ T L u 2) 5 (p + 1) = (b0, q0, t0) := ⟨_, _, _, rfl⟩
                  have hg1 := (zLS_gd (T := T) (zQ_gd (T := T) (L := L) (u := u) 2) 5) (p + 1) (by omega)
                  rw [hR1] at hg1
                  obtain ⟨hga1, hgb1, hgc1⟩ : (p + 1) ≤ q1 ∧ q1 ≤ L ∧ (b1 = true → (p + 1) < q1 ∧ t1.length ≤ q1 - (p + 1) ∧ zw1 t1) := hg1
                  refine lv_aload_n hx hb dX1_readQ_117 rfl (lv_at hl 2 rfl) ?_
                  refine lv_iconst (v := nI 0) hx hb dX1_readQ_118 (by decide) ?_
                  refine lv_iload_n hx hb dX1_readQ_119 rfl (lv_at hl 3 rfl) ?_
                  refine lv_iconst (v := nI 1) hx hb dX1_readQ_120 (by decide) ?_
                  refine lv_iadd hx hb dX1_readQ_121 ?_
                  refine zrw (nI_add _ _) ?_
                  refine zci (wr := []) (va_runV (As := [.int (nI 0), .int (nI 3)]) (rest := []) ⟨hx, hb, hml, hown, hts⟩ (c_X1_readLevel_0_3 l D cI cJ ad bd h hl9 ht hc hst L u T TB (p + 1) c C b1 q1 t1 (by first | rfl | assumption | omega) (by first | rfl | assumption | omega) (by first | rfl | assumption | omega) (by first | rfl | assumption | omega) (by omega) (by omega) hR1 H.size) (cwV 2 hts gX1_readQ_X1_readLevel rfl rfl rfl (by decide +kernel) ⟨Nat.le_of_ble_eq_true rfl, Nat.le_of_ble_eq_true rfl⟩) (zpVs hG hK hN hZ hP hD hS hA [0, 1, 2, 3] rfl (by decide) 0 rfl rfl rfl) rfl rfl hl.1 rfl (lv_room (Nat.le_of_ble_eq_true rfl)) dX1_readQ_122 ⟨Nat.zero_le _, Nat.zero_le _⟩) hP hD hS hA [0, 1, 2, 3] [] rfl rfl (by decide) (by decide) (fun r_31 w_30 H locs h_29 hP hD hS => ?_)
                  obtain ⟨c9_32, C9_33, hq9_34, hx9_35, rfl, rfl⟩ := h_29
                  have hP : va_P D vwCl [(h, .inr (1, [.ref hl9, .ref ht, .int (nI L), .ref (ad u), .int (nI q1)])), (hl9, .inr (0, [.ref hc, .int (nI c9_32), .ref hst])), (hc, .inl (cI, 60, .inl C9_33)), (ht, .inl (cI, 60, .inl TB))] H := hP
                  have hD : va_D AA [(h, .inr (1, [.ref hl9, .ref ht, .int (nI L), .ref (ad u), .int (nI q1)])), (hl9, .inr (0, [.ref hc, .int (nI c9_32), .ref hst])), (hc, .inl (cI, 60, .inl C9_33)), (ht, .inl (cI, 60, .inl TB))] := hD
                  refine lv_if_eq (tgt := 139) hx hb dX1_readQ_125 (by decide) (fun c125_36 => ?_) (fun c125_36 => ?_)
                  · have c125_36 := bI_0.mp c125_36
                    refine lv_iconst (v := nI 0) hx hb dX1_readQ_139 (by decide) ?_
                    exact hret hP hD hS dX1_readQ_140 rfl (by obtain ⟨e1, e2⟩ := zq_pf hR (by omega) (by assumption) hnx (by omega) hR1 (fun h9 => absurd h9.1 (by assumption)); subst e1; subst e2; exact ⟨_, _, hq9_34, fun h9 => (by cases h9), (bI_f (by decide)).symm, rfl⟩)
                  · have c125_36 := bI_n0.mp c125_36
                    obtain ⟨hgd1, hge1, hgf1⟩ := hgc1 c125_36
                    obtain ⟨he1, hE1⟩ := hx9_35 c125_36
                    subst he1; subst hE1
                    refine lv_aload_n hx hb dX1_readQ_128 rfl (lv_at hl 2 rfl) ?_
                    refine zci (wr := []) (va_runV (As := []) (rest := []) ⟨hx, hb, hml, hown, hts⟩ (c_X1_readClose l D cI cJ ad bd h hl9 ht hc hst L u T TB q1 ((c + t1.length)) (zapp C c t1) (by first | rfl | assumption | omega) (by first | rfl | assumption | omega) (by first | rfl | assumption | omega) (by first | rfl | assumption | omega) (by first | rfl | assumption | omega) H.size) (cwV 0 hts gX1_readQ_X1_readClose rfl rfl rfl (by decide +kernel) ⟨Nat.le_of_ble_eq_true rfl, Nat.le_of_ble_eq_true rfl⟩) (zpV hK hN hZ hP hD hS hA [0, 1, 2, 3] rfl (by decide) 0 rfl rfl rfl) rfl rfl hl.1 rfl (lv_room (Nat.le_of_ble_eq_true rfl)) dX1_readQ_129 ⟨Nat.zero_le _, Nat.zero_le _⟩) hP hD hS hA [0, 1, 2, 3] [] rfl rfl (by decide) (by decide) (fun r_39 w_38 H locs h_37 hP hD hS => ?_)
                    obtain ⟨rfl, rfl⟩ := h_37
                    have hP : va_P D vwCl [(h, .inr (1, [.ref hl9, .ref ht, .int (nI L), .ref (ad u), .int (nI ((if (q1 < L ∧ T q1 = 41) then q1 + 1 else q1)))])), (hl9, .inr (0, [.ref hc, .int (nI (((c + t1.length)))), .ref hst])), (hc, .inl (cI, 60, .inl ((zapp C c t1)))), (ht, .inl (cI, 60, .inl TB))] H := hP
                    have hD : va_D AA [(h, .inr (1, [.ref hl9, .ref ht, .int (nI L), .ref (ad u), .int (nI ((if (q1 < L ∧ T q1 = 41) then q1 + 1 else q1)))])), (hl9, .inr (0, [.ref hc, .int (nI (((c + t1.length)))), .ref hst])), (hc, .inl (cI, 60, .inl ((zapp C c t1)))), (ht, .inl (cI, 60, .inl TB))] := hD
                    refine lv_if_eq (tgt := 139) hx hb dX1_readQ_132 (by decide) (fun c132_40 => ?_) (fun c132_40 => ?_)
                    · have c132_40 := bI_0.mp c132_40
                      rw [if_neg c132_40] at hP hD
                      have hP : va_P D vwCl [(h, .inr (1, [.ref hl9, .ref ht, .int (nI L), .ref (ad u), .int (nI q1)])), (hl9, .inr (0, [.ref hc, .int (nI (((c + t1.length)))), .ref hst])), (hc, .inl (cI, 60, .inl ((zapp C c t1)))), (ht, .inl (cI, 60, .inl TB))] H := hP
                      have hD : va_D AA [(h, .inr (1, [.ref hl9, .ref ht, .int (nI L), .ref (ad u), .int (nI q1)])), (hl9, .inr (0, [.ref hc, .int (nI (((c + t1.length)))), .ref hst])), (hc, .inl (cI, 60, .inl ((zapp C c t1)))), (ht, .inl (cI, 60, .inl TB))] := hD
                      refine lv_iconst (v := nI 0) hx hb dX1_readQ_139 (by decide) ?_
                      exact hret hP hD hS dX1_readQ_140 rfl (by obtain ⟨e1, e2⟩ := zq_pf hR (by omega) (by assumption) hnx (by omega) hR1 (fun h9 => absurd h9.2 (by assumption)); subst e1; subst e2; exact ⟨_, _, by omega, fun h9 => (by cases h9), (bI_f (by decide)).symm, rfl⟩)
                    · have c132_40 := bI_n0.mp c132_40
                      rw [if_pos c132_40] at hP hD
                      have hP : va_P D vwCl [(h, .inr (1, [.ref hl9, .ref ht, .int (nI L), .ref (ad u), .int (nI (q1 + 1))])), (hl9, .inr (0, [.ref hc, .int (nI (((c + t1.length)))), .ref hst])), (hc, .inl (cI, 60, .inl ((zapp C c t1)))), (ht, .inl (cI, 60, .inl TB))] H := hP
                      have hD : va_D AA [(h, .inr (1, [.ref hl9, .ref ht, .int (nI L), .ref (ad u), .int (nI (q1 + 1))])), (hl9, .inr (0, [.ref hc, .int (nI (((c + t1.length)))), .ref hst])), (hc, .inl (cI, 60, .inl ((zapp C c t1)))), (ht, .inl (cI, 60, .inl TB))] := hD
                      refine lv_iconst (v := nI 1) hx hb dX1_readQ_135 (by decide) ?_
                      refine lv_goto (tgt := 140) hx hb dX1_readQ_136 (by decide) ?_
                      exact hret hP hD hS dX1_readQ_140 rfl (by obtain ⟨e1, e2, e3⟩ := zq_pt hR (by omega) (by assumption) hnx (by omega) hR1 (by assumption) (by assumption); subst e1; subst e2; subst e3; exact ⟨_, _, by omega, fun _ => ⟨rfl, rfl⟩, (bI_t rfl).symm, rfl⟩)
                · have c104_28 : (T p) = 33 := (nI_eq (a := T p) (b := 33) (by have h91 := hT p (by omega); omega) (by have h91 := hT p (by omega); omega)).mp c104_28
                  obtain ⟨b1, q1, t1, hR1⟩ : ∃ (b0 : Bool) (q0 : Nat) (t0 : zTks), zQ T L u 2 (p + 1) = (b0, q0, t0) := ⟨_, _, _, rfl⟩
                  have hg1 := (zQ_gd (T := T) (L := L) (u := u) 2) (p + 1) (by omega)
                  rw [hR1] at hg1
                  obtain ⟨hga1, hgb1, hgc1⟩ : (p + 1) ≤ q1 ∧ q1 ≤ L ∧ (b1 = true → (p + 1) < q1 ∧ t1.length ≤ q1 - (p + 1) ∧ zw1 t1) := hg1
                  refine lv_aload_n hx hb dX1_readQ_107 rfl (lv_at hl 2 rfl) ?_
                  refine lv_iload_n hx hb dX1_readQ_108 rfl (lv_at hl 3 rfl) ?_
                  refine lv_iconst (v := nI 1) hx hb dX1_readQ_109 (by decide) ?_
                  refine lv_iadd hx hb dX1_readQ_110 ?_
                  refine zrw (nI_add _ _) ?_
                  refine zci (wr := []) (va_runV (As := [.int (nI 3)]) (rest := []) ⟨hx, hb, hml, hown, hts⟩ (c_X1_readNot_3 l D cI cJ ad bd h hl9 ht hc hst L u T TB (p + 1) c C b1 q1 t1 (by first | rfl | assumption | omega) (by first | rfl | assumption | omega) (by first | rfl | assumption | omega) (by first | rfl | assumption | omega) (by omega) (by omega) hR1 H.size) (cwV 1 hts gX1_readQ_X1_readNot rfl rfl rfl (by decide +kernel) ⟨Nat.le_of_ble_eq_true rfl, Nat.le_of_ble_eq_true rfl⟩) (zpVs hG hK hN hZ hP hD hS hA [0, 1, 2, 3] rfl (by decide) 0 rfl rfl rfl) rfl rfl hl.1 rfl (lv_room (Nat.le_of_ble_eq_true rfl)) dX1_readQ_111 ⟨Nat.zero_le _, Nat.zero_le _⟩) hP hD hS hA [0, 1, 2, 3] [] rfl rfl (by decide) (by decide) (fun r_43 w_42 H locs h_41 hP hD hS => ?_)
                  obtain ⟨c9_44, C9_45, hq9_46, hx9_47, rfl, rfl⟩ := h_41
                  have hP : va_P D vwCl [(h, .inr (1, [.ref hl9, .ref ht, .int (nI L), .ref (ad u), .int (nI q1)])), (hl9, .inr (0, [.ref hc, .int (nI c9_44), .ref hst])), (hc, .inl (cI, 60, .inl C9_45)), (ht, .inl (cI, 60, .inl TB))] H := hP
                  have hD : va_D AA [(h, .inr (1, [.ref hl9, .ref ht, .int (nI L), .ref (ad u), .int (nI q1)])), (hl9, .inr (0, [.ref hc, .int (nI c9_44), .ref hst])), (hc, .inl (cI, 60, .inl C9_45)), (ht, .inl (cI, 60, .inl TB))] := hD
                  refine lv_goto (tgt := 140) hx hb dX1_readQ_114 (by decide) ?_
                  exact hret hP hD hS dX1_readQ_140 nar_bI (by obtain ⟨e1, e2, e3⟩ := zq_not hR (by omega) (by assumption) hnx (by omega) hR1; subst e1; subst e2; exact ⟨_, _, hq9_46, fun h9 => by rw [e3 h9]; exact hx9_47 h9, rfl, rfl⟩)
              · have c86_27 : ¬ (2 < 5) := fun h9 => c86_27 ((nI_ltI (a := 2) (b := 5) (by omega) (by omega)).mpr h9)
                exact absurd c86_27 (by omega)
        · exact absurd (by decide) c47_3
      · have hj3 := (znx_ch hnx).2
        refine zrw (show zbw (some j) = nI j from rfl) ?_
        refine lv_istore_n (lv' := [(3, .int (nI j)), (2, .int (nI (T p))), (0, .ref h), (1, .int (nI 2))]) hx hb dX1_readQ_45 rfl hl (by decide) rfl (fun ls hl => ?_)
        refine lv_iload_n hx hb dX1_readQ_46 rfl (lv_at hl 0 rfl) ?_
        refine lv_if_lt (tgt := 72) hx hb dX1_readQ_47 (by decide) (fun c47_48 => ?_) (fun c47_48 => ?_)
        · have c47_48 : j < 0 := (nI_ltI (a := j) (b := 0) (by omega) (by omega)).mp c47_48
          exact absurd c47_48 (by omega)
        · have c47_48 : ¬ (j < 0) := fun h9 => c47_48 ((nI_ltI (a := j) (b := 0) (by omega) (by omega)).mpr h9)
          refine lv_aload_n hx hb dX1_readQ_50 rfl (lv_at hl 2 rfl) ?_
          refine lv_dup hx hb dX1_readQ_51 rfl ?_
          refine va_get (ci := 1) (v := .int (nI p)) (C := RX1) (T := TX1) (N := 5) hx hb hts hin1 hown hK hP 0 rfl rfl 4 (by decide) (hts (.fieldLink RX1 32 "UpAllRound$Reader" "place" "I") (List.mem_of_getElem? (i := 1) rfl)) (fun _ h9 => h9) rfl dX1_readQ_52 ?_
          refine lv_iconst (v := nI 1) hx hb dX1_readQ_55 (by decide) ?_
          refine lv_iadd hx hb dX1_readQ_56 ?_
          refine zrw (nI_add _ _) ?_
          refine va_put (ci := 1) (v := .int (nI (p + 1))) (ty := .int) (C := RX1) (T := TX1) (N := 5) hx hb hts hin1 tyX1 tyX1_ok nmX1 hown hK hP hD hS 0 rfl rfl 4 (by decide) (hts (.fieldLink RX1 32 "UpAllRound$Reader" "place" "I") (List.mem_of_getElem? (i := 1) rfl)) (fun _ h9 => h9) rfl (by decide +kernel) rfl rfl (Nat.le_of_ble_eq_true rfl) dX1_readQ_57 (fun H locs hP hD hS => ?_)
          have hP : va_P D vwCl [(h, .inr (1, [.ref hl9, .ref ht, .int (nI L), .ref (ad u), .int (nI (p + 1))])), (hl9, .inr (0, [.ref hc, .int (nI c), .ref hst])), (hc, .inl (cI, 60, .inl C)), (ht, .inl (cI, 60, .inl TB))] H := hP
          have hD : va_D AA [(h, .inr (1, [.ref hl9, .ref ht, .int (nI L), .ref (ad u), .int (nI (p + 1))])), (hl9, .inr (0, [.ref hc, .int (nI c), .ref hst])), (hc, .inl (cI, 60, .inl C)), (ht, .inl (cI, 60, .inl TB))] := hD
          refine lv_aload_n hx hb dX1_readQ_60 rfl (lv_at hl 2 rfl) ?_
          refine va_get (ci := 1) (v := .ref hl9) (C := RX1) (T := TX1) (N := 5) hx hb hts hin1 hown hK hP 0 rfl rfl 0 (by decide) (hts (.fieldLink RX1 12 "UpAllRound$Reader" "law" "LUpAllRound$Law;") (List.mem_of_getElem? (i := 5) rfl)) (fun _ h9 => h9) rfl dX1_readQ_61 ?_
          refine lv_iconst (v := (-1)) hx hb dX1_readQ_64 (by decide) ?_
          refine lv_iload_n hx hb dX1_readQ_65 rfl (lv_at hl 0 rfl) ?_
          refine lv_isub hx hb dX1_readQ_66 ?_
          refine zcv (wr := [(h, .inr (1, [.ref hl9, .ref ht, .int (nI L), .ref (ad u), .int (nI (p + 1))])), (ht, .inl (cI, 60, .inl TB))]) (va_runVN (As := [.int (((-1)) - (nI j))]) (rest := []) ⟨hx, hb, hml, hown, hts⟩ (c_X0_add l D cI cJ hl9 hc hst c C (((-1)) - (nI j)) (by omega) H.size) ⟨va_cnB 1 hts gX1_readQ_X0_add_n61 rfl rfl rfl (hN (.methodLinkNest "UpAllRound$Reader" 61 yX0_add "UpAllRound") (List.mem_of_getElem? (i := 38) rfl)) (hts (.initialized RX0) (List.mem_of_getElem? (i := 15) rfl)) (by decide +kernel) ⟨Nat.le_of_ble_eq_true rfl, Nat.le_of_ble_eq_true rfl⟩, (hts (.instanceMethod yX0_add) (List.mem_of_getElem? (i := 14) rfl)), (hts (.selects RX0 yX0_add yX0_add) (List.mem_of_getElem? (i := 16) rfl))⟩ (zpV hK hN hZ hP hD hS hA [1, 2] rfl (by decide) 1 rfl rfl rfl) rfl rfl hl.1 rfl (lv_room (Nat.le_of_ble_eq_true rfl)) dX1_readQ_67 ⟨Nat.zero_le _, Nat.zero_le _⟩) hP hD hS hA [1, 2] [0, 3] rfl rfl (by decide) (by decide) (fun w_50 H locs h_49 hP hD hS => ?_)
          obtain rfl := h_49
          have hP : va_P D vwCl [(h, .inr (1, [.ref hl9, .ref ht, .int (nI L), .ref (ad u), .int (nI (p + 1))])), (ht, .inl (cI, 60, .inl TB)), (hl9, .inr (0, [.ref hc, .int (nI (c + 1)), .ref hst])), (hc, .inl (cI, 60, .inl (upd C c (((-1)) - (nI j)))))] H := hP
          have hD : va_D AA [(h, .inr (1, [.ref hl9, .ref ht, .int (nI L), .ref (ad u), .int (nI (p + 1))])), (ht, .inl (cI, 60, .inl TB)), (hl9, .inr (0, [.ref hc, .int (nI (c + 1)), .ref hst])), (hc, .inl (cI, 60, .inl (upd C c (((-1)) - (nI j)))))] := hD
          refine lv_iconst (v := nI 1) hx hb dX1_readQ_70 (by decide) ?_
          have hP := hP.sub (ws' := [(h, .inr (1, [.ref hl9, .ref ht, .int (nI L), .ref (ad u), .int (nI (p + 1))])), (hl9, .inr (0, [.ref hc, .int (nI (c + 1)), .ref hst])), (hc, .inl (cI, 60, .inl (upd C c (((-1)) - (nI j))))), (ht, .inl (cI, 60, .inl TB))]) [0, 2, 3, 1] rfl
          have hD := hD.sub (ws' := [(h, .inr (1, [.ref hl9, .ref ht, .int (nI L), .ref (ad u), .int (nI (p + 1))])), (hl9, .inr (0, [.ref hc, .int (nI (c + 1)), .ref hst])), (hc, .inl (cI, 60, .inl (upd C c (((-1)) - (nI j))))), (ht, .inl (cI, 60, .inl TB))]) [0, 2, 3, 1] (by decide) rfl
          exact hret hP hD hS dX1_readQ_71 rfl (by obtain ⟨e1, e2, e3⟩ := zq_n hR (by omega) (by assumption) hnx; subst e1; subst e2; subst e3; exact ⟨_, _, show c + 1 ≤ p + 1 from (by omega), fun _ => ⟨rfl, rfl⟩, (bI_t rfl).symm, rfl⟩)
    · have c27_2 := bI_n0.mp c27_2
      refine lv_aload_n hx hb dX1_readQ_30 rfl (lv_at hl 1 rfl) ?_
      refine zcv (wr := []) (va_runV (As := []) (rest := []) ⟨hx, hb, hml, hown, hts⟩ (c_X1_readNumber l D cI cJ ad bd h hl9 ht hc hst L u T TB p c C (by first | rfl | assumption | omega) (by first | rfl | assumption | omega) (by first | rfl | assumption | omega) (by first | rfl | assumption | omega) (by first | rfl | assumption | omega) (by omega) s.heap.size) (cwV 0 hts gX1_readQ_X1_readNumber rfl rfl rfl (by decide +kernel) ⟨Nat.le_of_ble_eq_true rfl, Nat.le_of_ble_eq_true rfl⟩) (zpV hK hN hZ hP hD hS hA [0, 1, 2, 3] rfl (by decide) 0 rfl rfl rfl) rfl rfl hl.1 rfl (lv_room (Nat.le_of_ble_eq_true rfl)) dX1_readQ_31 ⟨Nat.zero_le _, Nat.zero_le _⟩) hP hD hS hA [0, 1, 2, 3] [] rfl rfl (by decide) (by decide) (fun w_52 H locs h_51 hP hD hS => ?_)
      obtain rfl := h_51
      have hP : va_P D vwCl [(h, .inr (1, [.ref hl9, .ref ht, .int (nI L), .ref (ad u), .int (nI ((zNm T L 4 p 0).1))])), (hl9, .inr (0, [.ref hc, .int (nI ((c + 1))), .ref hst])), (hc, .inl (cI, 60, .inl (upd C c (nI (zNm T L 4 p 0).2)))), (ht, .inl (cI, 60, .inl TB))] H := hP
      have hD : va_D AA [(h, .inr (1, [.ref hl9, .ref ht, .int (nI L), .ref (ad u), .int (nI ((zNm T L 4 p 0).1))])), (hl9, .inr (0, [.ref hc, .int (nI ((c + 1))), .ref hst])), (hc, .inl (cI, 60, .inl (upd C c (nI (zNm T L 4 p 0).2)))), (ht, .inl (cI, 60, .inl TB))] := hD
      refine lv_iconst (v := nI 1) hx hb dX1_readQ_34 (by decide) ?_
      exact hret hP hD hS dX1_readQ_35 rfl (by obtain ⟨e1, e2, e3⟩ := zq_d hR (by omega) (by assumption); subst e1; subst e2; subst e3; exact ⟨_, _, show c + 1 ≤ _ from (by have h91 := zNm_4 (T := T) (L := L) (p := p) (by omega) (by assumption); omega), fun _ => ⟨rfl, rfl⟩, (bI_t rfl).symm, rfl⟩)
  · have c8_1 : ¬ (p < L) := fun h9 => c8_1 ((nI_ltI (a := p) (b := L) (by omega) (by omega)).mpr h9)
    refine lv_iconst (v := nI 0) hx hb dX1_readQ_11 (by decide) ?_
    exact hret hP hD hS dX1_readQ_12 rfl (by obtain ⟨e1, e2⟩ := zq_o hR (by omega); subst e1; subst e2; exact ⟨_, _, hcp, fun h9 => (by cases h9), (bI_f (by decide)).symm, rfl⟩)
set_option maxHeartbeats 4000000 in
set_option maxRecDepth 100000 in
theorem c_X1_readPart_4_2 (l : Launch) (D : va_G) (cI cJ : ClassId) (ad : Nat → Nat) (bd : Nat → Nat) (h : Nat) (hl9 : Nat) (ht : Nat) (hc : Nat) (hst : Nat) (L : Nat) (u : Nat) (T : Nat → Nat) (TB : Nat → Int32) (p : Nat) (c : Nat) (C : Nat → Int32) (b : Bool) (q : Nat) (tl : zTks) (hL : L ≤ 60) (hu1 : u ≤ 1) (hT : ∀ i, i < L → T i < 256) (htb : ∀ i, i < L → TB i = nI (T i)) (hp : p ≤ L) (hcp : c ≤ p) (hR : zLS T L (zQ T L u 3) 0 p = (b, q, tl)) : zTi ad bd l yX1_readPart wsX1_readPart ({ frames := 38, cells := 0, slots := 0, locals := 888 } : Room) D [(cI, .int), (cJ, .array .int)] [.ref h, .int (nI 4), .int (nI 2)] [(h, .inr (1, [.ref hl9, .ref ht, .int (nI L), .ref (ad u), .int (nI p)])), (hl9, .inr (0, [.ref hc, .int (nI c), .ref hst])), (hc, .inl (cI, 60, .inl C)), (ht, .inl (cI, 60, .inl TB))] (fun r w => ∃ (c9 : Nat) (C9 : Nat → Int32), c9 ≤ q ∧ (b = true → c9 = c + tl.length ∧ C9 = zapp C c tl) ∧ r = bI (b = true) ∧ w = [(h, .inr (1, [.ref hl9, .ref ht, .int (nI L), .ref (ad u), .int (nI q)])), (hl9, .inr (0, [.ref hc, .int (nI c9), .ref hst])), (hc, .inl (cI, 60, .inl C9)), (ht, .inl (cI, 60, .inl TB))]) := by
  refine zTi.start (cc := cX1_readPart) (maxL := 3) (rt := .boolean) (by first | decide | decide +kernel) rfl (Nat.le_of_ble_eq_true rfl) ?_
  intro pg ev s mt args below meth cd ls AA QQ ⟨hx, hb, hml, hr, hlocks, hown, hts, hK, hN, hZ, hP, hD, hA, hS, hl⟩ hG hret
  have hown : s.vm.findClass RX1 = some mt.cls := hown
  have hl : lv_has ls 3 [(0, .ref h), (1, .int (nI 4)), (2, .int (nI 2))] := hl
  have hin0 : ∀ w ∈ wsX00, w ∈ wsX1_readPart := fun w h => List.mem_cons_of_mem _ (List.mem_append_right _ (h))
  have hin1 : ∀ w ∈ wsX10, w ∈ wsX1_readPart := fun w h => List.mem_cons_of_mem _ (List.mem_append_left _ (List.mem_append_right _ (h)))
  refine lv_iload_n hx hb dX1_readPart_0 rfl (lv_at hl 1 rfl) ?_
  refine lv_iconst (v := nI 1) hx hb dX1_readPart_1 (by decide) ?_
  refine lv_iadd hx hb dX1_readPart_2 ?_
  refine zrw (nI_add _ _) ?_
  refine lv_iconst (v := nI 5) hx hb dX1_readPart_3 (by decide) ?_
  refine lv_icmp_ge (tgt := 18) hx hb dX1_readPart_4 (by decide) (fun c4_1 => ?_) (fun c4_1 => ?_)
  · have c4_1 : 5 ≤ 5 := (nI_leI (a := 5) (b := 5) (by omega) (by omega)).mp c4_1
    refine lv_aload_n hx hb dX1_readPart_18 rfl (lv_at hl 0 rfl) ?_
    refine lv_iload_n hx hb dX1_readPart_19 rfl (lv_at hl 2 rfl) ?_
    refine zci (wr := []) (va_runV (As := [.int (nI 2)]) (rest := []) ⟨hx, hb, hml, hown, hts⟩ (c_X1_readQ_2 l D cI cJ ad bd h hl9 ht hc hst L u T TB p c C b q tl (by first | rfl | assumption | omega) (by first | rfl | assumption | omega) (by first | rfl | assumption | omega) (by first | rfl | assumption | omega) (by first | rfl | assumption | omega) (by first | rfl | assumption | omega) hR s.heap.size) (cwV 1 hts gX1_readPart_X1_readQ rfl rfl rfl (by decide +kernel) ⟨Nat.le_of_ble_eq_true rfl, Nat.le_of_ble_eq_true rfl⟩) (zpVs hG hK hN hZ hP hD hS hA [0, 1, 2, 3] rfl (by decide) 0 rfl rfl rfl) rfl rfl hl.1 rfl (lv_room (Nat.le_of_ble_eq_true rfl)) dX1_readPart_20 ⟨Nat.zero_le _, Nat.zero_le _⟩) hP hD hS hA [0, 1, 2, 3] [] rfl rfl (by decide) (by decide) (fun r_4 w_3 H locs h_2 hP hD hS => ?_)
    obtain ⟨c9_5, C9_6, hq9_7, hx9_8, rfl, rfl⟩ := h_2
    have hP : va_P D vwCl [(h, .inr (1, [.ref hl9, .ref ht, .int (nI L), .ref (ad u), .int (nI q)])), (hl9, .inr (0, [.ref hc, .int (nI c9_5), .ref hst])), (hc, .inl (cI, 60, .inl C9_6)), (ht, .inl (cI, 60, .inl TB))] H := hP
    have hD : va_D AA [(h, .inr (1, [.ref hl9, .ref ht, .int (nI L), .ref (ad u), .int (nI q)])), (hl9, .inr (0, [.ref hc, .int (nI c9_5), .ref hst])), (hc, .inl (cI, 60, .inl C9_6)), (ht, .inl (cI, 60, .inl TB))] := hD
    exact hret hP hD hS dX1_readPart_23 nar_bI (by exact ⟨_, _, hq9_7, hx9_8, rfl, rfl⟩)
  · have c4_1 : ¬ (5 ≤ 5) := fun h9 => c4_1 ((nI_leI (a := 5) (b := 5) (by omega) (by omega)).mpr h9)
    exact absurd c4_1 (by omega)
set_option maxHeartbeats 4000000 in
set_option maxRecDepth 100000 in
theorem c_X1_readLevel_4_2 (l : Launch) (D : va_G) (cI cJ : ClassId) (ad : Nat → Nat) (bd : Nat → Nat) (h : Nat) (hl9 : Nat) (ht : Nat) (hc : Nat) (hst : Nat) (L : Nat) (u : Nat) (T : Nat → Nat) (TB : Nat → Int32) (p : Nat) (c : Nat) (C : Nat → Int32) (b : Bool) (q : Nat) (tl : zTks) (hL : L ≤ 60) (hu1 : u ≤ 1) (hT : ∀ i, i < L → T i < 256) (htb : ∀ i, i < L → TB i = nI (T i)) (hp : p ≤ L) (hcp : c ≤ p) (hR : zLS T L (zQ T L u 3) 1 p = (b, q, tl)) : zTi ad bd l yX1_readLevel wsX1_readLevel ({ frames := 39, cells := 0, slots := 0, locals := 910 } : Room) D [(cI, .int), (cJ, .array .int)] [.ref h, .int (nI 4), .int (nI 2)] [(h, .inr (1, [.ref hl9, .ref ht, .int (nI L), .ref (ad u), .int (nI p)])), (hl9, .inr (0, [.ref hc, .int (nI c), .ref hst])), (hc, .inl (cI, 60, .inl C)), (ht, .inl (cI, 60, .inl TB))] (fun r w => ∃ (c9 : Nat) (C9 : Nat → Int32), c9 ≤ q ∧ (b = true → c9 = c + tl.length ∧ C9 = zapp C c tl) ∧ r = bI (b = true) ∧ w = [(h, .inr (1, [.ref hl9, .ref ht, .int (nI L), .ref (ad u), .int (nI q)])), (hl9, .inr (0, [.ref hc, .int (nI c9), .ref hst])), (hc, .inl (cI, 60, .inl C9)), (ht, .inl (cI, 60, .inl TB))]) := by
  refine zTi.start (cc := cX1_readLevel) (maxL := 6) (rt := .boolean) (by first | decide | decide +kernel) rfl (Nat.le_of_ble_eq_true rfl) ?_
  intro pg ev s mt args below meth cd ls AA QQ ⟨hx, hb, hml, hr, hlocks, hown, hts, hK, hN, hZ, hP, hD, hA, hS, hl⟩ hG hret
  have hown : s.vm.findClass RX1 = some mt.cls := hown
  have hl : lv_has ls 6 [(0, .ref h), (1, .int (nI 4)), (2, .int (nI 2))] := hl
  have hin0 : ∀ w ∈ wsX00, w ∈ wsX1_readLevel := fun w h => List.mem_cons_of_mem _ (List.mem_append_right _ (h))
  have hin1 : ∀ w ∈ wsX10, w ∈ wsX1_readLevel := fun w h => List.mem_cons_of_mem _ (List.mem_append_left _ (List.mem_append_right _ (h)))
  have hR : zLv T L 4 (zLS T L (zQ T L u 3) 0) p = (b, q, tl) := hR
  obtain ⟨b1, q1, t1, hR1⟩ : ∃ (b0 : Bool) (q0 : Nat) (t0 : zTks), zLS T L (zQ T L u 3) 0 p = (b0, q0, t0) := ⟨_, _, _, rfl⟩
  have hg1 := (zLS_gd (T := T) (zQ_gd (T := T) (L := L) (u := u) 3) 0) p (by omega)
  rw [hR1] at hg1
  obtain ⟨hga1, hgb1, hgc1⟩ : p ≤ q1 ∧ q1 ≤ L ∧ (b1 = true → p < q1 ∧ t1.length ≤ q1 - p ∧ zw1 t1) := hg1
  refine lv_aload_n hx hb dX1_readLevel_0 rfl (lv_at hl 0 rfl) ?_
  refine lv_iload_n hx hb dX1_readLevel_1 rfl (lv_at hl 1 rfl) ?_
  refine lv_iload_n hx hb dX1_readLevel_2 rfl (lv_at hl 2 rfl) ?_
  refine zci (wr := []) (va_runV (As := [.int (nI 4), .int (nI 2)]) (rest := []) ⟨hx, hb, hml, hown, hts⟩ (c_X1_readPart_4_2 l D cI cJ ad bd h hl9 ht hc hst L u T TB p c C b1 q1 t1 (by first | rfl | assumption | omega) (by first | rfl | assumption | omega) (by first | rfl | assumption | omega) (by first | rfl | assumption | omega) (by first | rfl | assumption | omega) (by first | rfl | assumption | omega) hR1 s.heap.size) (cwV 2 hts gX1_readLevel_X1_readPart rfl rfl rfl (by decide +kernel) ⟨Nat.le_of_ble_eq_true rfl, Nat.le_of_ble_eq_true rfl⟩) (zpVs hG hK hN hZ hP hD hS hA [0, 1, 2, 3] rfl (by decide) 0 rfl rfl rfl) rfl rfl hl.1 rfl (lv_room (Nat.le_of_ble_eq_true rfl)) dX1_readLevel_3 ⟨Nat.zero_le _, Nat.zero_le _⟩) hP hD hS hA [0, 1, 2, 3] [] rfl rfl (by decide) (by decide) (fun r_3 w_2 H locs h_1 hP hD hS => ?_)
  obtain ⟨c9_4, C9_5, hq9_6, hx9_7, rfl, rfl⟩ := h_1
  have hP : va_P D vwCl [(h, .inr (1, [.ref hl9, .ref ht, .int (nI L), .ref (ad u), .int (nI q1)])), (hl9, .inr (0, [.ref hc, .int (nI c9_4), .ref hst])), (hc, .inl (cI, 60, .inl C9_5)), (ht, .inl (cI, 60, .inl TB))] H := hP
  have hD : va_D AA [(h, .inr (1, [.ref hl9, .ref ht, .int (nI L), .ref (ad u), .int (nI q1)])), (hl9, .inr (0, [.ref hc, .int (nI c9_4), .ref hst])), (hc, .inl (cI, 60, .inl C9_5)), (ht, .inl (cI, 60, .inl TB))] := hD
  refine lv_if_ne (tgt := 11) hx hb dX1_readLevel_6 (by decide) (fun c6_8 => ?_) (fun c6_8 => ?_)
  · have c6_8 := bI_n0.mp c6_8
    obtain ⟨hgd1, hge1, hgf1⟩ := hgc1 c6_8
    obtain ⟨he1, hE1⟩ := hx9_7 c6_8
    subst he1; subst hE1
    have hz := zLv_tt hR hR1 c6_8
    refine lv_iload_n hx hb dX1_readLevel_11 rfl (lv_at hl 1 rfl) ?_
    refine lv_iconst (v := nI 2) hx hb dX1_readLevel_12 (by decide) ?_
    refine lv_icmp_ne (tgt := 20) hx hb dX1_readLevel_13 (by decide) (fun c13_9 => ?_) (fun c13_9 => ?_)
    · have c13_9 : ¬ (4 = 2) := fun h9 => c13_9 ((nI_eq (a := 4) (b := 2) (by omega) (by omega)).mpr h9)
      refine lv_bipush (v := nI 60) hx hb dX1_readLevel_20 (by decide) ?_
      refine lv_istore_n (lv' := [(3, .int (nI 60)), (0, .ref h), (1, .int (nI 4)), (2, .int (nI 2))]) hx hb dX1_readLevel_22 rfl hl (by decide) rfl (fun ls hl => ?_)
      refine lv_iconst (v := nI 0) hx hb dX1_readLevel_23 (by decide) ?_
      refine lv_istore (lv' := [(4, .int (nI 0)), (3, .int (nI 60)), (0, .ref h), (1, .int (nI 4)), (2, .int (nI 2))]) hx hb dX1_readLevel_24 hl (by decide) rfl (fun ls hl => ?_)
      have L_26 : ∀ (fu : Nat) (f : Nat) (pv : Nat) (ta : zTks) (i : Nat) (hn : f < fu) (hz : zct ta (zLp T L 4 (zLS T L (zQ T L u 3) 0) f pv) = (b, q, tl)) (hf : L - pv < f) (hpv : pv ≤ L) (hca : c + ta.length ≤ pv) (hi1 : i + 1 ≤ pv), ∀ (ls : Array Slot), lv_has ls 6 [(0, .ref h), (1, .int (nI 4)), (2, .int (nI 2)), (3, .int (nI 60)), (4, .int (nI i))] → ∀ (H : Heap) (locs : List Loc), va_P D vwCl [(h, .inr (1, [.ref hl9, .ref ht, .int (nI L), .ref (ad u), .int (nI pv)])), (hl9, .inr (0, [.ref hc, .int (nI ((c + ta.length))), .ref hst])), (hc, .inl (cI, 60, .inl (zapp C c ta))), (ht, .inl (cI, 60, .inl TB))] H → va_D AA [(h, .inr (1, [.ref hl9, .ref ht, .int (nI L), .ref (ad u), .int (nI pv)])), (hl9, .inr (0, [.ref hc, .int (nI ((c + ta.length))), .ref hst])), (hc, .inl (cI, 60, .inl (zapp C c ta))), (ht, .inl (cI, 60, .inl TB))] → va_S AA s.heap H locs → W pg l ev ({ frames := 39, cells := 0, slots := 0, locals := 910 } : Room) s mt args below meth cd H locs 0 0 QQ (F0 mt 26 ls []) := by
        intro fu
        induction fu with
        | zero =>
          intro  f pv ta i  hn
          exact absurd hn (by omega)
        | succ fu ih_26 =>
          intro  f pv ta i  hn hz hf hpv hca hi1 ls hl H locs hP hD hS
          obtain ⟨f1, rfl⟩ : ∃ f1, f = f1 + 1 := ⟨f - 1, by omega⟩
          refine lv_iload hx hb dX1_readLevel_26 (lv_at hl 4 rfl) ?_
          refine lv_iload_n hx hb dX1_readLevel_28 rfl (lv_at hl 3 rfl) ?_
          refine lv_icmp_ge (tgt := 107) hx hb dX1_readLevel_29 (by decide) (fun c29_10 => ?_) (fun c29_10 => ?_)
          · have c29_10 : 60 ≤ i := (nI_leI (a := 60) (b := i) (by omega) (by omega)).mp c29_10
            exact absurd c29_10 (by omega)
          · have c29_10 : ¬ (60 ≤ i) := fun h9 => c29_10 ((nI_leI (a := 60) (b := i) (by omega) (by omega)).mpr h9)
            refine lv_aload_n hx hb dX1_readLevel_32 rfl (lv_at hl 0 rfl) ?_
            refine va_get (ci := 1) (v := .int (nI pv)) (C := RX1) (T := TX1) (N := 5) hx hb hts hin1 hown hK hP 0 rfl rfl 4 (by decide) (hts (.fieldLink RX1 32 "UpAllRound$Reader" "place" "I") (List.mem_of_getElem? (i := 1) rfl)) (fun _ h9 => h9) rfl dX1_readLevel_33 ?_
            refine lv_aload_n hx hb dX1_readLevel_36 rfl (lv_at hl 0 rfl) ?_
            refine va_get (ci := 1) (v := .int (nI L)) (C := RX1) (T := TX1) (N := 5) hx hb hts hin1 hown hK hP 0 rfl rfl 2 (by decide) (hts (.fieldLink RX1 22 "UpAllRound$Reader" "length" "I") (List.mem_of_getElem? (i := 2) rfl)) (fun _ h9 => h9) rfl dX1_readLevel_37 ?_
            refine lv_icmp_ge (tgt := 107) hx hb dX1_readLevel_40 (by decide) (fun c40_11 => ?_) (fun c40_11 => ?_)
            · have c40_11 : L ≤ pv := (nI_leI (a := L) (b := pv) (by omega) (by omega)).mp c40_11
              refine lv_iconst (v := nI 1) hx hb dX1_readLevel_107 (by decide) ?_
              exact hret hP hD hS dX1_readLevel_108 rfl (by obtain ⟨e1, e2, e3⟩ := zLe (f := f1) hz (by omega); subst e1; subst e2; subst e3; exact ⟨_, _, by omega, fun _ => ⟨rfl, rfl⟩, (bI_t rfl).symm, rfl⟩)
            · have c40_11 : ¬ (L ≤ pv) := fun h9 => c40_11 ((nI_leI (a := L) (b := pv) (by omega) (by omega)).mpr h9)
              refine lv_aload_n hx hb dX1_readLevel_43 rfl (lv_at hl 0 rfl) ?_
              refine va_get (ci := 1) (v := .ref ht) (C := RX1) (T := TX1) (N := 5) hx hb hts hin1 hown hK hP 0 rfl rfl 1 (by decide) (hts (.fieldLink RX1 18 "UpAllRound$Reader" "tape" "[I") (List.mem_of_getElem? (i := 3) rfl)) (fun _ h9 => h9) rfl dX1_readLevel_44 ?_
              refine lv_aload_n hx hb dX1_readLevel_47 rfl (lv_at hl 0 rfl) ?_
              refine va_get (ci := 1) (v := .int (nI pv)) (C := RX1) (T := TX1) (N := 5) hx hb hts hin1 hown hK hP 0 rfl rfl 4 (by decide) (hts (.fieldLink RX1 32 "UpAllRound$Reader" "place" "I") (List.mem_of_getElem? (i := 1) rfl)) (fun _ h9 => h9) rfl dX1_readLevel_48 ?_
              refine zald (t := pv) hx hb hK hP 3 rfl (by omega) (by decide) dX1_readLevel_51 ?_
              refine zrw (htb pv (by omega)) ?_
              refine zcsE (va_runS (As := [.int (nI (T pv))]) (rest := []) ⟨hx, hb, hml, hown, hts⟩ (c_X1_levelOf l D cI cJ (T pv) (hT pv (by omega)) H.size) (va_cwS 1 hts gX1_readLevel_X1_levelOf rfl rfl rfl (by decide +kernel) ⟨Nat.le_of_ble_eq_true rfl, Nat.le_of_ble_eq_true rfl⟩) (zpS hK hN hZ hP hD hS hA [] rfl (by decide)) rfl rfl hl.1 rfl (lv_room (Nat.le_of_ble_eq_true rfl)) dX1_readLevel_52 ⟨Nat.zero_le _, Nat.zero_le _⟩) ?_
              refine lv_iload_n hx hb dX1_readLevel_55 rfl (lv_at hl 1 rfl) ?_
              refine lv_icmp_ne (tgt := 107) hx hb dX1_readLevel_56 (by decide) (fun c56_12 => ?_) (fun c56_12 => ?_)
              · have c56_12 : ¬ (((zlv (T pv))) = 4) := fun h9 => c56_12 ((nI_eq (a := (zlv (T pv))) (b := 4) (by have h91 := zlv_le (T pv); omega) (by have h91 := zlv_le (T pv); omega)).mpr h9)
                refine lv_iconst (v := nI 1) hx hb dX1_readLevel_107 (by decide) ?_
                exact hret hP hD hS dX1_readLevel_108 rfl (by obtain ⟨e1, e2, e3⟩ := zLe (f := f1) hz (by omega); subst e1; subst e2; subst e3; exact ⟨_, _, by omega, fun _ => ⟨rfl, rfl⟩, (bI_t rfl).symm, rfl⟩)
              · have c56_12 : ((zlv (T pv))) = 4 := (nI_eq (a := (zlv (T pv))) (b := 4) (by have h91 := zlv_le (T pv); omega) (by have h91 := zlv_le (T pv); omega)).mp c56_12
                refine lv_aload_n hx hb dX1_readLevel_59 rfl (lv_at hl 0 rfl) ?_
                refine va_get (ci := 1) (v := .ref ht) (C := RX1) (T := TX1) (N := 5) hx hb hts hin1 hown hK hP 0 rfl rfl 1 (by decide) (hts (.fieldLink RX1 18 "UpAllRound$Reader" "tape" "[I") (List.mem_of_getElem? (i := 3) rfl)) (fun _ h9 => h9) rfl dX1_readLevel_60 ?_
                refine lv_aload_n hx hb dX1_readLevel_63 rfl (lv_at hl 0 rfl) ?_
                refine va_get (ci := 1) (v := .int (nI pv)) (C := RX1) (T := TX1) (N := 5) hx hb hts hin1 hown hK hP 0 rfl rfl 4 (by decide) (hts (.fieldLink RX1 32 "UpAllRound$Reader" "place" "I") (List.mem_of_getElem? (i := 1) rfl)) (fun _ h9 => h9) rfl dX1_readLevel_64 ?_
                refine zald (t := pv) hx hb hK hP 3 rfl (by omega) (by decide) dX1_readLevel_67 ?_
                refine zrw (htb pv (by omega)) ?_
                refine lv_istore (lv' := [(5, .int (nI (T pv))), (0, .ref h), (1, .int (nI 4)), (2, .int (nI 2)), (3, .int (nI 60)), (4, .int (nI i))]) hx hb dX1_readLevel_68 hl (by decide) rfl (fun ls hl => ?_)
                refine lv_aload_n hx hb dX1_readLevel_70 rfl (lv_at hl 1 rfl) ?_
                refine lv_dup hx hb dX1_readLevel_71 rfl ?_
                refine va_get (ci := 1) (v := .int (nI pv)) (C := RX1) (T := TX1) (N := 5) hx hb hts hin1 hown hK hP 0 rfl rfl 4 (by decide) (hts (.fieldLink RX1 32 "UpAllRound$Reader" "place" "I") (List.mem_of_getElem? (i := 1) rfl)) (fun _ h9 => h9) rfl dX1_readLevel_72 ?_
                refine lv_iconst (v := nI 1) hx hb dX1_readLevel_75 (by decide) ?_
                refine lv_iadd hx hb dX1_readLevel_76 ?_
                refine zrw (nI_add _ _) ?_
                refine va_put (ci := 1) (v := .int (nI (pv + 1))) (ty := .int) (C := RX1) (T := TX1) (N := 5) hx hb hts hin1 tyX1 tyX1_ok nmX1 hown hK hP hD hS 0 rfl rfl 4 (by decide) (hts (.fieldLink RX1 32 "UpAllRound$Reader" "place" "I") (List.mem_of_getElem? (i := 1) rfl)) (fun _ h9 => h9) rfl (by decide +kernel) rfl rfl (Nat.le_of_ble_eq_true rfl) dX1_readLevel_77 (fun H locs hP hD hS => ?_)
                have hP : va_P D vwCl [(h, .inr (1, [.ref hl9, .ref ht, .int (nI L), .ref (ad u), .int (nI (pv + 1))])), (hl9, .inr (0, [.ref hc, .int (nI ((c + ta.length))), .ref hst])), (hc, .inl (cI, 60, .inl (zapp C c ta))), (ht, .inl (cI, 60, .inl TB))] H := hP
                have hD : va_D AA [(h, .inr (1, [.ref hl9, .ref ht, .int (nI L), .ref (ad u), .int (nI (pv + 1))])), (hl9, .inr (0, [.ref hc, .int (nI ((c + ta.length))), .ref hst])), (hc, .inl (cI, 60, .inl (zapp C c ta))), (ht, .inl (cI, 60, .inl TB))] := hD
                obtain ⟨b2, q2, t2, hR2⟩ : ∃ (b0 : Bool) (q0 : Nat) (t0 : zTks), zLS T L (zQ T L u 3) 0 (pv + 1) = (b0, q0, t0) := ⟨_, _, _, rfl⟩
                have hg2 := (zLS_gd (T := T) (zQ_gd (T := T) (L := L) (u := u) 3) 0) (pv + 1) (by omega)
                rw [hR2] at hg2
                obtain ⟨hga2, hgb2, hgc2⟩ : (pv + 1) ≤ q2 ∧ q2 ≤ L ∧ (b2 = true → (pv + 1) < q2 ∧ t2.length ≤ q2 - (pv + 1) ∧ zw1 t2) := hg2
                refine lv_aload_n hx hb dX1_readLevel_80 rfl (lv_at hl 1 rfl) ?_
                refine lv_iload_n hx hb dX1_readLevel_81 rfl (lv_at hl 2 rfl) ?_
                refine lv_iload_n hx hb dX1_readLevel_82 rfl (lv_at hl 3 rfl) ?_
                refine zci (wr := []) (va_runV (As := [.int (nI 4), .int (nI 2)]) (rest := []) ⟨hx, hb, hml, hown, hts⟩ (c_X1_readPart_4_2 l D cI cJ ad bd h hl9 ht hc hst L u T TB (pv + 1) ((c + ta.length)) (zapp C c ta) b2 q2 t2 (by first | rfl | assumption | omega) (by first | rfl | assumption | omega) (by first | rfl | assumption | omega) (by first | rfl | assumption | omega) (by omega) (by omega) hR2 H.size) (cwV 2 hts gX1_readLevel_X1_readPart rfl rfl rfl (by decide +kernel) ⟨Nat.le_of_ble_eq_true rfl, Nat.le_of_ble_eq_true rfl⟩) (zpVs hG hK hN hZ hP hD hS hA [0, 1, 2, 3] rfl (by decide) 0 rfl rfl rfl) rfl rfl hl.1 rfl (lv_room (Nat.le_of_ble_eq_true rfl)) dX1_readLevel_83 ⟨Nat.zero_le _, Nat.zero_le _⟩) hP hD hS hA [0, 1, 2, 3] [] rfl rfl (by decide) (by decide) (fun r_15 w_14 H locs h_13 hP hD hS => ?_)
                obtain ⟨c9_16, C9_17, hq9_18, hx9_19, rfl, rfl⟩ := h_13
                have hP : va_P D vwCl [(h, .inr (1, [.ref hl9, .ref ht, .int (nI L), .ref (ad u), .int (nI q2)])), (hl9, .inr (0, [.ref hc, .int (nI c9_16), .ref hst])), (hc, .inl (cI, 60, .inl C9_17)), (ht, .inl (cI, 60, .inl TB))] H := hP
                have hD : va_D AA [(h, .inr (1, [.ref hl9, .ref ht, .int (nI L), .ref (ad u), .int (nI q2)])), (hl9, .inr (0, [.ref hc, .int (nI c9_16), .ref hst])), (hc, .inl (cI, 60, .inl C9_17)), (ht, .inl (cI, 60, .inl TB))] := hD
                refine lv_if_ne (tgt := 91) hx hb dX1_readLevel_86 (by decide) (fun c86_20 => ?_) (fun c86_20 => ?_)
                · have c86_20 := bI_n0.mp c86_20
                  obtain ⟨hgd2, hge2, hgf2⟩ := hgc2 c86_20
                  obtain ⟨he2, hE2⟩ := hx9_19 c86_20
                  subst he2; subst hE2
                  refine lv_aload_n hx hb dX1_readLevel_91 rfl (lv_at hl 1 rfl) ?_
                  refine va_get (ci := 1) (v := .ref hl9) (C := RX1) (T := TX1) (N := 5) hx hb hts hin1 hown hK hP 0 rfl rfl 0 (by decide) (hts (.fieldLink RX1 12 "UpAllRound$Reader" "law" "LUpAllRound$Law;") (List.mem_of_getElem? (i := 4) rfl)) (fun _ h9 => h9) rfl dX1_readLevel_92 ?_
                  refine lv_iload hx hb dX1_readLevel_95 (lv_at hl 0 rfl) ?_
                  refine lv_ineg hx hb dX1_readLevel_97 ?_
                  refine zcv (wr := [(h, .inr (1, [.ref hl9, .ref ht, .int (nI L), .ref (ad u), .int (nI q2)])), (ht, .inl (cI, 60, .inl TB))]) (va_runVN (As := [.int (-(nI (T pv)))]) (rest := []) ⟨hx, hb, hml, hown, hts⟩ (c_X0_add l D cI cJ hl9 hc hst ((c + ta.length + t2.length)) (zapp (zapp C c ta) (c + ta.length) t2) (-(nI (T pv))) (by omega) H.size) ⟨va_cnB 1 hts gX1_readLevel_X0_add_n61 rfl rfl rfl (hN (.methodLinkNest "UpAllRound$Reader" 61 yX0_add "UpAllRound") (List.mem_of_getElem? (i := 38) rfl)) (hts (.initialized RX0) (List.mem_of_getElem? (i := 13) rfl)) (by decide +kernel) ⟨Nat.le_of_ble_eq_true rfl, Nat.le_of_ble_eq_true rfl⟩, (hts (.instanceMethod yX0_add) (List.mem_of_getElem? (i := 12) rfl)), (hts (.selects RX0 yX0_add yX0_add) (List.mem_of_getElem? (i := 14) rfl))⟩ (zpV hK hN hZ hP hD hS hA [1, 2] rfl (by decide) 1 rfl rfl rfl) rfl rfl hl.1 rfl (lv_room (Nat.le_of_ble_eq_true rfl)) dX1_readLevel_98 ⟨Nat.zero_le _, Nat.zero_le _⟩) hP hD hS hA [1, 2] [0, 3] rfl rfl (by decide) (by decide) (fun w_22 H locs h_21 hP hD hS => ?_)
                  obtain rfl := h_21
                  have hP : va_P D vwCl [(h, .inr (1, [.ref hl9, .ref ht, .int (nI L), .ref (ad u), .int (nI q2)])), (ht, .inl (cI, 60, .inl TB)), (hl9, .inr (0, [.ref hc, .int (nI (((c + ta.length + t2.length)) + 1)), .ref hst])), (hc, .inl (cI, 60, .inl (upd (zapp (zapp C c ta) (c + ta.length) t2) ((c + ta.length + t2.length)) (-(nI (T pv))))))] H := hP
                  have hD : va_D AA [(h, .inr (1, [.ref hl9, .ref ht, .int (nI L), .ref (ad u), .int (nI q2)])), (ht, .inl (cI, 60, .inl TB)), (hl9, .inr (0, [.ref hc, .int (nI (((c + ta.length + t2.length)) + 1)), .ref hst])), (hc, .inl (cI, 60, .inl (upd (zapp (zapp C c ta) (c + ta.length) t2) ((c + ta.length + t2.length)) (-(nI (T pv))))))] := hD
                  refine lv_iinc (v := nI (i + 1)) (lv' := [(4, .int (nI (i + 1))), (5, .int (nI (T pv))), (0, .ref h), (1, .int (nI 4)), (2, .int (nI 2)), (3, .int (nI 60))]) hx hb dX1_readLevel_101 hl (k := 5) rfl (nI_add _ _) (by decide) rfl (fun ls hl => ?_)
                  refine lv_goto (tgt := 26) hx hb dX1_readLevel_104 (by decide) ?_
                  rw [show -(nI (T pv)) = zcode (3, T pv) from rfl, zapp1, zlen1 (t := (3, T pv))] at hP hD
                  exact ih_26   f1 q2 ((ta ++ (t2 ++ [(3, T pv)]))) ((i + 1)) (by omega) (zLt (by decide) hz ⟨by omega, by omega⟩ hR2 (by assumption)) (by omega) (by omega) (by rw [← zlen1]; omega) (by omega) ls (lv_sub hl [2, 3, 4, 5, 0] rfl) H locs (hP.sub [0, 2, 3, 1] rfl) (hD.sub [0, 2, 3, 1] (by decide) rfl) hS
                · have c86_20 := bI_0.mp c86_20
                  refine lv_iconst (v := nI 0) hx hb dX1_readLevel_89 (by decide) ?_
                  exact hret hP hD hS dX1_readLevel_90 rfl (by obtain ⟨e1, e2⟩ := zLf hz ⟨by omega, by omega⟩ hR2 (by assumption); subst e1; subst e2; exact ⟨_, _, hq9_18, fun h9 => (by cases h9), (bI_f (by decide)).symm, rfl⟩)
      exact L_26 62  61 q1 t1 0 (by omega) hz (by omega) (by omega) (by omega) (by omega) ls (lv_sub hl [2, 3, 4, 1, 0] rfl) _ _ hP hD hS
    · have c13_9 : 4 = 2 := (nI_eq (a := 4) (b := 2) (by omega) (by omega)).mp c13_9
      exact absurd c13_9 (by omega)
  · have c6_8 := bI_0.mp c6_8
    refine lv_iconst (v := nI 0) hx hb dX1_readLevel_9 (by decide) ?_
    exact hret hP hD hS dX1_readLevel_10 rfl (by obtain ⟨e1, e2⟩ := zLv_ff hR hR1 (by assumption); subst e1; subst e2; exact ⟨_, _, hq9_6, fun h9 => (by cases h9), (bI_f (by decide)).symm, rfl⟩)
set_option maxHeartbeats 4000000 in
set_option maxRecDepth 100000 in
theorem c_X1_readPart_3_2 (l : Launch) (D : va_G) (cI cJ : ClassId) (ad : Nat → Nat) (bd : Nat → Nat) (h : Nat) (hl9 : Nat) (ht : Nat) (hc : Nat) (hst : Nat) (L : Nat) (u : Nat) (T : Nat → Nat) (TB : Nat → Int32) (p : Nat) (c : Nat) (C : Nat → Int32) (b : Bool) (q : Nat) (tl : zTks) (hL : L ≤ 60) (hu1 : u ≤ 1) (hT : ∀ i, i < L → T i < 256) (htb : ∀ i, i < L → TB i = nI (T i)) (hp : p ≤ L) (hcp : c ≤ p) (hR : zLS T L (zQ T L u 3) 1 p = (b, q, tl)) : zTi ad bd l yX1_readPart wsX1_readPart ({ frames := 40, cells := 0, slots := 0, locals := 935 } : Room) D [(cI, .int), (cJ, .array .int)] [.ref h, .int (nI 3), .int (nI 2)] [(h, .inr (1, [.ref hl9, .ref ht, .int (nI L), .ref (ad u), .int (nI p)])), (hl9, .inr (0, [.ref hc, .int (nI c), .ref hst])), (hc, .inl (cI, 60, .inl C)), (ht, .inl (cI, 60, .inl TB))] (fun r w => ∃ (c9 : Nat) (C9 : Nat → Int32), c9 ≤ q ∧ (b = true → c9 = c + tl.length ∧ C9 = zapp C c tl) ∧ r = bI (b = true) ∧ w = [(h, .inr (1, [.ref hl9, .ref ht, .int (nI L), .ref (ad u), .int (nI q)])), (hl9, .inr (0, [.ref hc, .int (nI c9), .ref hst])), (hc, .inl (cI, 60, .inl C9)), (ht, .inl (cI, 60, .inl TB))]) := by
  refine zTi.start (cc := cX1_readPart) (maxL := 3) (rt := .boolean) (by first | decide | decide +kernel) rfl (Nat.le_of_ble_eq_true rfl) ?_
  intro pg ev s mt args below meth cd ls AA QQ ⟨hx, hb, hml, hr, hlocks, hown, hts, hK, hN, hZ, hP, hD, hA, hS, hl⟩ hG hret
  have hown : s.vm.findClass RX1 = some mt.cls := hown
  have hl : lv_has ls 3 [(0, .ref h), (1, .int (nI 3)), (2, .int (nI 2))] := hl
  have hin0 : ∀ w ∈ wsX00, w ∈ wsX1_readPart := fun w h => List.mem_cons_of_mem _ (List.mem_append_right _ (h))
  have hin1 : ∀ w ∈ wsX10, w ∈ wsX1_readPart := fun w h => List.mem_cons_of_mem _ (List.mem_append_left _ (List.mem_append_right _ (h)))
  refine lv_iload_n hx hb dX1_readPart_0 rfl (lv_at hl 1 rfl) ?_
  refine lv_iconst (v := nI 1) hx hb dX1_readPart_1 (by decide) ?_
  refine lv_iadd hx hb dX1_readPart_2 ?_
  refine zrw (nI_add _ _) ?_
  refine lv_iconst (v := nI 5) hx hb dX1_readPart_3 (by decide) ?_
  refine lv_icmp_ge (tgt := 18) hx hb dX1_readPart_4 (by decide) (fun c4_1 => ?_) (fun c4_1 => ?_)
  · have c4_1 : 5 ≤ 4 := (nI_leI (a := 5) (b := 4) (by omega) (by omega)).mp c4_1
    exact absurd c4_1 (by omega)
  · have c4_1 : ¬ (5 ≤ 4) := fun h9 => c4_1 ((nI_leI (a := 5) (b := 4) (by omega) (by omega)).mpr h9)
    refine lv_aload_n hx hb dX1_readPart_7 rfl (lv_at hl 0 rfl) ?_
    refine lv_iload_n hx hb dX1_readPart_8 rfl (lv_at hl 1 rfl) ?_
    refine lv_iconst (v := nI 1) hx hb dX1_readPart_9 (by decide) ?_
    refine lv_iadd hx hb dX1_readPart_10 ?_
    refine zrw (nI_add _ _) ?_
    refine lv_iload_n hx hb dX1_readPart_11 rfl (lv_at hl 2 rfl) ?_
    refine zci (wr := []) (va_runV (As := [.int (nI 4), .int (nI 2)]) (rest := []) ⟨hx, hb, hml, hown, hts⟩ (c_X1_readLevel_4_2 l D cI cJ ad bd h hl9 ht hc hst L u T TB p c C b q tl (by first | rfl | assumption | omega) (by first | rfl | assumption | omega) (by first | rfl | assumption | omega) (by first | rfl | assumption | omega) (by first | rfl | assumption | omega) (by first | rfl | assumption | omega) hR s.heap.size) (cwV 2 hts gX1_readPart_X1_readLevel rfl rfl rfl (by decide +kernel) ⟨Nat.le_of_ble_eq_true rfl, Nat.le_of_ble_eq_true rfl⟩) (zpVs hG hK hN hZ hP hD hS hA [0, 1, 2, 3] rfl (by decide) 0 rfl rfl rfl) rfl rfl hl.1 rfl (lv_room (Nat.le_of_ble_eq_true rfl)) dX1_readPart_12 ⟨Nat.zero_le _, Nat.zero_le _⟩) hP hD hS hA [0, 1, 2, 3] [] rfl rfl (by decide) (by decide) (fun r_4 w_3 H locs h_2 hP hD hS => ?_)
    obtain ⟨c9_5, C9_6, hq9_7, hx9_8, rfl, rfl⟩ := h_2
    have hP : va_P D vwCl [(h, .inr (1, [.ref hl9, .ref ht, .int (nI L), .ref (ad u), .int (nI q)])), (hl9, .inr (0, [.ref hc, .int (nI c9_5), .ref hst])), (hc, .inl (cI, 60, .inl C9_6)), (ht, .inl (cI, 60, .inl TB))] H := hP
    have hD : va_D AA [(h, .inr (1, [.ref hl9, .ref ht, .int (nI L), .ref (ad u), .int (nI q)])), (hl9, .inr (0, [.ref hc, .int (nI c9_5), .ref hst])), (hc, .inl (cI, 60, .inl C9_6)), (ht, .inl (cI, 60, .inl TB))] := hD
    refine lv_goto (tgt := 23) hx hb dX1_readPart_15 (by decide) ?_
    exact hret hP hD hS dX1_readPart_23 nar_bI (by exact ⟨_, _, hq9_7, hx9_8, rfl, rfl⟩)
set_option maxHeartbeats 4000000 in
set_option maxRecDepth 100000 in
theorem c_X1_readLevel_3_2 (l : Launch) (D : va_G) (cI cJ : ClassId) (ad : Nat → Nat) (bd : Nat → Nat) (h : Nat) (hl9 : Nat) (ht : Nat) (hc : Nat) (hst : Nat) (L : Nat) (u : Nat) (T : Nat → Nat) (TB : Nat → Int32) (p : Nat) (c : Nat) (C : Nat → Int32) (b : Bool) (q : Nat) (tl : zTks) (hL : L ≤ 60) (hu1 : u ≤ 1) (hT : ∀ i, i < L → T i < 256) (htb : ∀ i, i < L → TB i = nI (T i)) (hp : p ≤ L) (hcp : c ≤ p) (hR : zLS T L (zQ T L u 3) 2 p = (b, q, tl)) : zTi ad bd l yX1_readLevel wsX1_readLevel ({ frames := 41, cells := 0, slots := 0, locals := 957 } : Room) D [(cI, .int), (cJ, .array .int)] [.ref h, .int (nI 3), .int (nI 2)] [(h, .inr (1, [.ref hl9, .ref ht, .int (nI L), .ref (ad u), .int (nI p)])), (hl9, .inr (0, [.ref hc, .int (nI c), .ref hst])), (hc, .inl (cI, 60, .inl C)), (ht, .inl (cI, 60, .inl TB))] (fun r w => ∃ (c9 : Nat) (C9 : Nat → Int32), c9 ≤ q ∧ (b = true → c9 = c + tl.length ∧ C9 = zapp C c tl) ∧ r = bI (b = true) ∧ w = [(h, .inr (1, [.ref hl9, .ref ht, .int (nI L), .ref (ad u), .int (nI q)])), (hl9, .inr (0, [.ref hc, .int (nI c9), .ref hst])), (hc, .inl (cI, 60, .inl C9)), (ht, .inl (cI, 60, .inl TB))]) := by
  refine zTi.start (cc := cX1_readLevel) (maxL := 6) (rt := .boolean) (by first | decide | decide +kernel) rfl (Nat.le_of_ble_eq_true rfl) ?_
  intro pg ev s mt args below meth cd ls AA QQ ⟨hx, hb, hml, hr, hlocks, hown, hts, hK, hN, hZ, hP, hD, hA, hS, hl⟩ hG hret
  have hown : s.vm.findClass RX1 = some mt.cls := hown
  have hl : lv_has ls 6 [(0, .ref h), (1, .int (nI 3)), (2, .int (nI 2))] := hl
  have hin0 : ∀ w ∈ wsX00, w ∈ wsX1_readLevel := fun w h => List.mem_cons_of_mem _ (List.mem_append_right _ (h))
  have hin1 : ∀ w ∈ wsX10, w ∈ wsX1_readLevel := fun w h => List.mem_cons_of_mem _ (List.mem_append_left _ (List.mem_append_right _ (h)))
  have hR : zLv T L 3 (zLS T L (zQ T L u 3) 1) p = (b, q, tl) := hR
  obtain ⟨b1, q1, t1, hR1⟩ : ∃ (b0 : Bool) (q0 : Nat) (t0 : zTks), zLS T L (zQ T L u 3) 1 p = (b0, q0, t0) := ⟨_, _, _, rfl⟩
  have hg1 := (zLS_gd (T := T) (zQ_gd (T := T) (L := L) (u := u) 3) 1) p (by omega)
  rw [hR1] at hg1
  obtain ⟨hga1, hgb1, hgc1⟩ : p ≤ q1 ∧ q1 ≤ L ∧ (b1 = true → p < q1 ∧ t1.length ≤ q1 - p ∧ zw1 t1) := hg1
  refine lv_aload_n hx hb dX1_readLevel_0 rfl (lv_at hl 0 rfl) ?_
  refine lv_iload_n hx hb dX1_readLevel_1 rfl (lv_at hl 1 rfl) ?_
  refine lv_iload_n hx hb dX1_readLevel_2 rfl (lv_at hl 2 rfl) ?_
  refine zci (wr := []) (va_runV (As := [.int (nI 3), .int (nI 2)]) (rest := []) ⟨hx, hb, hml, hown, hts⟩ (c_X1_readPart_3_2 l D cI cJ ad bd h hl9 ht hc hst L u T TB p c C b1 q1 t1 (by first | rfl | assumption | omega) (by first | rfl | assumption | omega) (by first | rfl | assumption | omega) (by first | rfl | assumption | omega) (by first | rfl | assumption | omega) (by first | rfl | assumption | omega) hR1 s.heap.size) (cwV 2 hts gX1_readLevel_X1_readPart rfl rfl rfl (by decide +kernel) ⟨Nat.le_of_ble_eq_true rfl, Nat.le_of_ble_eq_true rfl⟩) (zpVs hG hK hN hZ hP hD hS hA [0, 1, 2, 3] rfl (by decide) 0 rfl rfl rfl) rfl rfl hl.1 rfl (lv_room (Nat.le_of_ble_eq_true rfl)) dX1_readLevel_3 ⟨Nat.zero_le _, Nat.zero_le _⟩) hP hD hS hA [0, 1, 2, 3] [] rfl rfl (by decide) (by decide) (fun r_3 w_2 H locs h_1 hP hD hS => ?_)
  obtain ⟨c9_4, C9_5, hq9_6, hx9_7, rfl, rfl⟩ := h_1
  have hP : va_P D vwCl [(h, .inr (1, [.ref hl9, .ref ht, .int (nI L), .ref (ad u), .int (nI q1)])), (hl9, .inr (0, [.ref hc, .int (nI c9_4), .ref hst])), (hc, .inl (cI, 60, .inl C9_5)), (ht, .inl (cI, 60, .inl TB))] H := hP
  have hD : va_D AA [(h, .inr (1, [.ref hl9, .ref ht, .int (nI L), .ref (ad u), .int (nI q1)])), (hl9, .inr (0, [.ref hc, .int (nI c9_4), .ref hst])), (hc, .inl (cI, 60, .inl C9_5)), (ht, .inl (cI, 60, .inl TB))] := hD
  refine lv_if_ne (tgt := 11) hx hb dX1_readLevel_6 (by decide) (fun c6_8 => ?_) (fun c6_8 => ?_)
  · have c6_8 := bI_n0.mp c6_8
    obtain ⟨hgd1, hge1, hgf1⟩ := hgc1 c6_8
    obtain ⟨he1, hE1⟩ := hx9_7 c6_8
    subst he1; subst hE1
    have hz := zLv_tt hR hR1 c6_8
    refine lv_iload_n hx hb dX1_readLevel_11 rfl (lv_at hl 1 rfl) ?_
    refine lv_iconst (v := nI 2) hx hb dX1_readLevel_12 (by decide) ?_
    refine lv_icmp_ne (tgt := 20) hx hb dX1_readLevel_13 (by decide) (fun c13_9 => ?_) (fun c13_9 => ?_)
    · have c13_9 : ¬ (3 = 2) := fun h9 => c13_9 ((nI_eq (a := 3) (b := 2) (by omega) (by omega)).mpr h9)
      refine lv_bipush (v := nI 60) hx hb dX1_readLevel_20 (by decide) ?_
      refine lv_istore_n (lv' := [(3, .int (nI 60)), (0, .ref h), (1, .int (nI 3)), (2, .int (nI 2))]) hx hb dX1_readLevel_22 rfl hl (by decide) rfl (fun ls hl => ?_)
      refine lv_iconst (v := nI 0) hx hb dX1_readLevel_23 (by decide) ?_
      refine lv_istore (lv' := [(4, .int (nI 0)), (3, .int (nI 60)), (0, .ref h), (1, .int (nI 3)), (2, .int (nI 2))]) hx hb dX1_readLevel_24 hl (by decide) rfl (fun ls hl => ?_)
      have L_26 : ∀ (fu : Nat) (f : Nat) (pv : Nat) (ta : zTks) (i : Nat) (hn : f < fu) (hz : zct ta (zLp T L 3 (zLS T L (zQ T L u 3) 1) f pv) = (b, q, tl)) (hf : L - pv < f) (hpv : pv ≤ L) (hca : c + ta.length ≤ pv) (hi1 : i + 1 ≤ pv), ∀ (ls : Array Slot), lv_has ls 6 [(0, .ref h), (1, .int (nI 3)), (2, .int (nI 2)), (3, .int (nI 60)), (4, .int (nI i))] → ∀ (H : Heap) (locs : List Loc), va_P D vwCl [(h, .inr (1, [.ref hl9, .ref ht, .int (nI L), .ref (ad u), .int (nI pv)])), (hl9, .inr (0, [.ref hc, .int (nI ((c + ta.length))), .ref hst])), (hc, .inl (cI, 60, .inl (zapp C c ta))), (ht, .inl (cI, 60, .inl TB))] H → va_D AA [(h, .inr (1, [.ref hl9, .ref ht, .int (nI L), .ref (ad u), .int (nI pv)])), (hl9, .inr (0, [.ref hc, .int (nI ((c + ta.length))), .ref hst])), (hc, .inl (cI, 60, .inl (zapp C c ta))), (ht, .inl (cI, 60, .inl TB))] → va_S AA s.heap H locs → W pg l ev ({ frames := 41, cells := 0, slots := 0, locals := 957 } : Room) s mt args below meth cd H locs 0 0 QQ (F0 mt 26 ls []) := by
        intro fu
        induction fu with
        | zero =>
          intro  f pv ta i  hn
          exact absurd hn (by omega)
        | succ fu ih_26 =>
          intro  f pv ta i  hn hz hf hpv hca hi1 ls hl H locs hP hD hS
          obtain ⟨f1, rfl⟩ : ∃ f1, f = f1 + 1 := ⟨f - 1, by omega⟩
          refine lv_iload hx hb dX1_readLevel_26 (lv_at hl 4 rfl) ?_
          refine lv_iload_n hx hb dX1_readLevel_28 rfl (lv_at hl 3 rfl) ?_
          refine lv_icmp_ge (tgt := 107) hx hb dX1_readLevel_29 (by decide) (fun c29_10 => ?_) (fun c29_10 => ?_)
          · have c29_10 : 60 ≤ i := (nI_leI (a := 60) (b := i) (by omega) (by omega)).mp c29_10
            exact absurd c29_10 (by omega)
          · have c29_10 : ¬ (60 ≤ i) := fun h9 => c29_10 ((nI_leI (a := 60) (b := i) (by omega) (by omega)).mpr h9)
            refine lv_aload_n hx hb dX1_readLevel_32 rfl (lv_at hl 0 rfl) ?_
            refine va_get (ci := 1) (v := .int (nI pv)) (C := RX1) (T := TX1) (N := 5) hx hb hts hin1 hown hK hP 0 rfl rfl 4 (by decide) (hts (.fieldLink RX1 32 "UpAllRound$Reader" "place" "I") (List.mem_of_getElem? (i := 1) rfl)) (fun _ h9 => h9) rfl dX1_readLevel_33 ?_
            refine lv_aload_n hx hb dX1_readLevel_36 rfl (lv_at hl 0 rfl) ?_
            refine va_get (ci := 1) (v := .int (nI L)) (C := RX1) (T := TX1) (N := 5) hx hb hts hin1 hown hK hP 0 rfl rfl 2 (by decide) (hts (.fieldLink RX1 22 "UpAllRound$Reader" "length" "I") (List.mem_of_getElem? (i := 2) rfl)) (fun _ h9 => h9) rfl dX1_readLevel_37 ?_
            refine lv_icmp_ge (tgt := 107) hx hb dX1_readLevel_40 (by decide) (fun c40_11 => ?_) (fun c40_11 => ?_)
            · have c40_11 : L ≤ pv := (nI_leI (a := L) (b := pv) (by omega) (by omega)).mp c40_11
              refine lv_iconst (v := nI 1) hx hb dX1_readLevel_107 (by decide) ?_
              exact hret hP hD hS dX1_readLevel_108 rfl (by obtain ⟨e1, e2, e3⟩ := zLe (f := f1) hz (by omega); subst e1; subst e2; subst e3; exact ⟨_, _, by omega, fun _ => ⟨rfl, rfl⟩, (bI_t rfl).symm, rfl⟩)
            · have c40_11 : ¬ (L ≤ pv) := fun h9 => c40_11 ((nI_leI (a := L) (b := pv) (by omega) (by omega)).mpr h9)
              refine lv_aload_n hx hb dX1_readLevel_43 rfl (lv_at hl 0 rfl) ?_
              refine va_get (ci := 1) (v := .ref ht) (C := RX1) (T := TX1) (N := 5) hx hb hts hin1 hown hK hP 0 rfl rfl 1 (by decide) (hts (.fieldLink RX1 18 "UpAllRound$Reader" "tape" "[I") (List.mem_of_getElem? (i := 3) rfl)) (fun _ h9 => h9) rfl dX1_readLevel_44 ?_
              refine lv_aload_n hx hb dX1_readLevel_47 rfl (lv_at hl 0 rfl) ?_
              refine va_get (ci := 1) (v := .int (nI pv)) (C := RX1) (T := TX1) (N := 5) hx hb hts hin1 hown hK hP 0 rfl rfl 4 (by decide) (hts (.fieldLink RX1 32 "UpAllRound$Reader" "place" "I") (List.mem_of_getElem? (i := 1) rfl)) (fun _ h9 => h9) rfl dX1_readLevel_48 ?_
              refine zald (t := pv) hx hb hK hP 3 rfl (by omega) (by decide) dX1_readLevel_51 ?_
              refine zrw (htb pv (by omega)) ?_
              refine zcsE (va_runS (As := [.int (nI (T pv))]) (rest := []) ⟨hx, hb, hml, hown, hts⟩ (c_X1_levelOf l D cI cJ (T pv) (hT pv (by omega)) H.size) (va_cwS 1 hts gX1_readLevel_X1_levelOf rfl rfl rfl (by decide +kernel) ⟨Nat.le_of_ble_eq_true rfl, Nat.le_of_ble_eq_true rfl⟩) (zpS hK hN hZ hP hD hS hA [] rfl (by decide)) rfl rfl hl.1 rfl (lv_room (Nat.le_of_ble_eq_true rfl)) dX1_readLevel_52 ⟨Nat.zero_le _, Nat.zero_le _⟩) ?_
              refine lv_iload_n hx hb dX1_readLevel_55 rfl (lv_at hl 1 rfl) ?_
              refine lv_icmp_ne (tgt := 107) hx hb dX1_readLevel_56 (by decide) (fun c56_12 => ?_) (fun c56_12 => ?_)
              · have c56_12 : ¬ (((zlv (T pv))) = 3) := fun h9 => c56_12 ((nI_eq (a := (zlv (T pv))) (b := 3) (by have h91 := zlv_le (T pv); omega) (by have h91 := zlv_le (T pv); omega)).mpr h9)
                refine lv_iconst (v := nI 1) hx hb dX1_readLevel_107 (by decide) ?_
                exact hret hP hD hS dX1_readLevel_108 rfl (by obtain ⟨e1, e2, e3⟩ := zLe (f := f1) hz (by omega); subst e1; subst e2; subst e3; exact ⟨_, _, by omega, fun _ => ⟨rfl, rfl⟩, (bI_t rfl).symm, rfl⟩)
              · have c56_12 : ((zlv (T pv))) = 3 := (nI_eq (a := (zlv (T pv))) (b := 3) (by have h91 := zlv_le (T pv); omega) (by have h91 := zlv_le (T pv); omega)).mp c56_12
                refine lv_aload_n hx hb dX1_readLevel_59 rfl (lv_at hl 0 rfl) ?_
                refine va_get (ci := 1) (v := .ref ht) (C := RX1) (T := TX1) (N := 5) hx hb hts hin1 hown hK hP 0 rfl rfl 1 (by decide) (hts (.fieldLink RX1 18 "UpAllRound$Reader" "tape" "[I") (List.mem_of_getElem? (i := 3) rfl)) (fun _ h9 => h9) rfl dX1_readLevel_60 ?_
                refine lv_aload_n hx hb dX1_readLevel_63 rfl (lv_at hl 0 rfl) ?_
                refine va_get (ci := 1) (v := .int (nI pv)) (C := RX1) (T := TX1) (N := 5) hx hb hts hin1 hown hK hP 0 rfl rfl 4 (by decide) (hts (.fieldLink RX1 32 "UpAllRound$Reader" "place" "I") (List.mem_of_getElem? (i := 1) rfl)) (fun _ h9 => h9) rfl dX1_readLevel_64 ?_
                refine zald (t := pv) hx hb hK hP 3 rfl (by omega) (by decide) dX1_readLevel_67 ?_
                refine zrw (htb pv (by omega)) ?_
                refine lv_istore (lv' := [(5, .int (nI (T pv))), (0, .ref h), (1, .int (nI 3)), (2, .int (nI 2)), (3, .int (nI 60)), (4, .int (nI i))]) hx hb dX1_readLevel_68 hl (by decide) rfl (fun ls hl => ?_)
                refine lv_aload_n hx hb dX1_readLevel_70 rfl (lv_at hl 1 rfl) ?_
                refine lv_dup hx hb dX1_readLevel_71 rfl ?_
                refine va_get (ci := 1) (v := .int (nI pv)) (C := RX1) (T := TX1) (N := 5) hx hb hts hin1 hown hK hP 0 rfl rfl 4 (by decide) (hts (.fieldLink RX1 32 "UpAllRound$Reader" "place" "I") (List.mem_of_getElem? (i := 1) rfl)) (fun _ h9 => h9) rfl dX1_readLevel_72 ?_
                refine lv_iconst (v := nI 1) hx hb dX1_readLevel_75 (by decide) ?_
                refine lv_iadd hx hb dX1_readLevel_76 ?_
                refine zrw (nI_add _ _) ?_
                refine va_put (ci := 1) (v := .int (nI (pv + 1))) (ty := .int) (C := RX1) (T := TX1) (N := 5) hx hb hts hin1 tyX1 tyX1_ok nmX1 hown hK hP hD hS 0 rfl rfl 4 (by decide) (hts (.fieldLink RX1 32 "UpAllRound$Reader" "place" "I") (List.mem_of_getElem? (i := 1) rfl)) (fun _ h9 => h9) rfl (by decide +kernel) rfl rfl (Nat.le_of_ble_eq_true rfl) dX1_readLevel_77 (fun H locs hP hD hS => ?_)
                have hP : va_P D vwCl [(h, .inr (1, [.ref hl9, .ref ht, .int (nI L), .ref (ad u), .int (nI (pv + 1))])), (hl9, .inr (0, [.ref hc, .int (nI ((c + ta.length))), .ref hst])), (hc, .inl (cI, 60, .inl (zapp C c ta))), (ht, .inl (cI, 60, .inl TB))] H := hP
                have hD : va_D AA [(h, .inr (1, [.ref hl9, .ref ht, .int (nI L), .ref (ad u), .int (nI (pv + 1))])), (hl9, .inr (0, [.ref hc, .int (nI ((c + ta.length))), .ref hst])), (hc, .inl (cI, 60, .inl (zapp C c ta))), (ht, .inl (cI, 60, .inl TB))] := hD
                obtain ⟨b2, q2, t2, hR2⟩ : ∃ (b0 : Bool) (q0 : Nat) (t0 : zTks), zLS T L (zQ T L u 3) 1 (pv + 1) = (b0, q0, t0) := ⟨_, _, _, rfl⟩
                have hg2 := (zLS_gd (T := T) (zQ_gd (T := T) (L := L) (u := u) 3) 1) (pv + 1) (by omega)
                rw [hR2] at hg2
                obtain ⟨hga2, hgb2, hgc2⟩ : (pv + 1) ≤ q2 ∧ q2 ≤ L ∧ (b2 = true → (pv + 1) < q2 ∧ t2.length ≤ q2 - (pv + 1) ∧ zw1 t2) := hg2
                refine lv_aload_n hx hb dX1_readLevel_80 rfl (lv_at hl 1 rfl) ?_
                refine lv_iload_n hx hb dX1_readLevel_81 rfl (lv_at hl 2 rfl) ?_
                refine lv_iload_n hx hb dX1_readLevel_82 rfl (lv_at hl 3 rfl) ?_
                refine zci (wr := []) (va_runV (As := [.int (nI 3), .int (nI 2)]) (rest := []) ⟨hx, hb, hml, hown, hts⟩ (c_X1_readPart_3_2 l D cI cJ ad bd h hl9 ht hc hst L u T TB (pv + 1) ((c + ta.length)) (zapp C c ta) b2 q2 t2 (by first | rfl | assumption | omega) (by first | rfl | assumption | omega) (by first | rfl | assumption | omega) (by first | rfl | assumption | omega) (by omega) (by omega) hR2 H.size) (cwV 2 hts gX1_readLevel_X1_readPart rfl rfl rfl (by decide +kernel) ⟨Nat.le_of_ble_eq_true rfl, Nat.le_of_ble_eq_true rfl⟩) (zpVs hG hK hN hZ hP hD hS hA [0, 1, 2, 3] rfl (by decide) 0 rfl rfl rfl) rfl rfl hl.1 rfl (lv_room (Nat.le_of_ble_eq_true rfl)) dX1_readLevel_83 ⟨Nat.zero_le _, Nat.zero_le _⟩) hP hD hS hA [0, 1, 2, 3] [] rfl rfl (by decide) (by decide) (fun r_15 w_14 H locs h_13 hP hD hS => ?_)
                obtain ⟨c9_16, C9_17, hq9_18, hx9_19, rfl, rfl⟩ := h_13
                have hP : va_P D vwCl [(h, .inr (1, [.ref hl9, .ref ht, .int (nI L), .ref (ad u), .int (nI q2)])), (hl9, .inr (0, [.ref hc, .int (nI c9_16), .ref hst])), (hc, .inl (cI, 60, .inl C9_17)), (ht, .inl (cI, 60, .inl TB))] H := hP
                have hD : va_D AA [(h, .inr (1, [.ref hl9, .ref ht, .int (nI L), .ref (ad u), .int (nI q2)])), (hl9, .inr (0, [.ref hc, .int (nI c9_16), .ref hst])), (hc, .inl (cI, 60, .inl C9_17)), (ht, .inl (cI, 60, .inl TB))] := hD
                refine lv_if_ne (tgt := 91) hx hb dX1_readLevel_86 (by decide) (fun c86_20 => ?_) (fun c86_20 => ?_)
                · have c86_20 := bI_n0.mp c86_20
                  obtain ⟨hgd2, hge2, hgf2⟩ := hgc2 c86_20
                  obtain ⟨he2, hE2⟩ := hx9_19 c86_20
                  subst he2; subst hE2
                  refine lv_aload_n hx hb dX1_readLevel_91 rfl (lv_at hl 1 rfl) ?_
                  refine va_get (ci := 1) (v := .ref hl9) (C := RX1) (T := TX1) (N := 5) hx hb hts hin1 hown hK hP 0 rfl rfl 0 (by decide) (hts (.fieldLink RX1 12 "UpAllRound$Reader" "law" "LUpAllRound$Law;") (List.mem_of_getElem? (i := 4) rfl)) (fun _ h9 => h9) rfl dX1_readLevel_92 ?_
                  refine lv_iload hx hb dX1_readLevel_95 (lv_at hl 0 rfl) ?_
                  refine lv_ineg hx hb dX1_readLevel_97 ?_
                  refine zcv (wr := [(h, .inr (1, [.ref hl9, .ref ht, .int (nI L), .ref (ad u), .int (nI q2)])), (ht, .inl (cI, 60, .inl TB))]) (va_runVN (As := [.int (-(nI (T pv)))]) (rest := []) ⟨hx, hb, hml, hown, hts⟩ (c_X0_add l D cI cJ hl9 hc hst ((c + ta.length + t2.length)) (zapp (zapp C c ta) (c + ta.length) t2) (-(nI (T pv))) (by omega) H.size) ⟨va_cnB 1 hts gX1_readLevel_X0_add_n61 rfl rfl rfl (hN (.methodLinkNest "UpAllRound$Reader" 61 yX0_add "UpAllRound") (List.mem_of_getElem? (i := 38) rfl)) (hts (.initialized RX0) (List.mem_of_getElem? (i := 13) rfl)) (by decide +kernel) ⟨Nat.le_of_ble_eq_true rfl, Nat.le_of_ble_eq_true rfl⟩, (hts (.instanceMethod yX0_add) (List.mem_of_getElem? (i := 12) rfl)), (hts (.selects RX0 yX0_add yX0_add) (List.mem_of_getElem? (i := 14) rfl))⟩ (zpV hK hN hZ hP hD hS hA [1, 2] rfl (by decide) 1 rfl rfl rfl) rfl rfl hl.1 rfl (lv_room (Nat.le_of_ble_eq_true rfl)) dX1_readLevel_98 ⟨Nat.zero_le _, Nat.zero_le _⟩) hP hD hS hA [1, 2] [0, 3] rfl rfl (by decide) (by decide) (fun w_22 H locs h_21 hP hD hS => ?_)
                  obtain rfl := h_21
                  have hP : va_P D vwCl [(h, .inr (1, [.ref hl9, .ref ht, .int (nI L), .ref (ad u), .int (nI q2)])), (ht, .inl (cI, 60, .inl TB)), (hl9, .inr (0, [.ref hc, .int (nI (((c + ta.length + t2.length)) + 1)), .ref hst])), (hc, .inl (cI, 60, .inl (upd (zapp (zapp C c ta) (c + ta.length) t2) ((c + ta.length + t2.length)) (-(nI (T pv))))))] H := hP
                  have hD : va_D AA [(h, .inr (1, [.ref hl9, .ref ht, .int (nI L), .ref (ad u), .int (nI q2)])), (ht, .inl (cI, 60, .inl TB)), (hl9, .inr (0, [.ref hc, .int (nI (((c + ta.length + t2.length)) + 1)), .ref hst])), (hc, .inl (cI, 60, .inl (upd (zapp (zapp C c ta) (c + ta.length) t2) ((c + ta.length + t2.length)) (-(nI (T pv))))))] := hD
                  refine lv_iinc (v := nI (i + 1)) (lv' := [(4, .int (nI (i + 1))), (5, .int (nI (T pv))), (0, .ref h), (1, .int (nI 3)), (2, .int (nI 2)), (3, .int (nI 60))]) hx hb dX1_readLevel_101 hl (k := 5) rfl (nI_add _ _) (by decide) rfl (fun ls hl => ?_)
                  refine lv_goto (tgt := 26) hx hb dX1_readLevel_104 (by decide) ?_
                  rw [show -(nI (T pv)) = zcode (3, T pv) from rfl, zapp1, zlen1 (t := (3, T pv))] at hP hD
                  exact ih_26   f1 q2 ((ta ++ (t2 ++ [(3, T pv)]))) ((i + 1)) (by omega) (zLt (by decide) hz ⟨by omega, by omega⟩ hR2 (by assumption)) (by omega) (by omega) (by rw [← zlen1]; omega) (by omega) ls (lv_sub hl [2, 3, 4, 5, 0] rfl) H locs (hP.sub [0, 2, 3, 1] rfl) (hD.sub [0, 2, 3, 1] (by decide) rfl) hS
                · have c86_20 := bI_0.mp c86_20
                  refine lv_iconst (v := nI 0) hx hb dX1_readLevel_89 (by decide) ?_
                  exact hret hP hD hS dX1_readLevel_90 rfl (by obtain ⟨e1, e2⟩ := zLf hz ⟨by omega, by omega⟩ hR2 (by assumption); subst e1; subst e2; exact ⟨_, _, hq9_18, fun h9 => (by cases h9), (bI_f (by decide)).symm, rfl⟩)
      exact L_26 62  61 q1 t1 0 (by omega) hz (by omega) (by omega) (by omega) (by omega) ls (lv_sub hl [2, 3, 4, 1, 0] rfl) _ _ hP hD hS
    · have c13_9 : 3 = 2 := (nI_eq (a := 3) (b := 2) (by omega) (by omega)).mp c13_9
      exact absurd c13_9 (by omega)
  · have c6_8 := bI_0.mp c6_8
    refine lv_iconst (v := nI 0) hx hb dX1_readLevel_9 (by decide) ?_
    exact hret hP hD hS dX1_readLevel_10 rfl (by obtain ⟨e1, e2⟩ := zLv_ff hR hR1 (by assumption); subst e1; subst e2; exact ⟨_, _, hq9_6, fun h9 => (by cases h9), (bI_f (by decide)).symm, rfl⟩)
set_option maxHeartbeats 4000000 in
set_option maxRecDepth 100000 in
theorem c_X1_readPart_2_2 (l : Launch) (D : va_G) (cI cJ : ClassId) (ad : Nat → Nat) (bd : Nat → Nat) (h : Nat) (hl9 : Nat) (ht : Nat) (hc : Nat) (hst : Nat) (L : Nat) (u : Nat) (T : Nat → Nat) (TB : Nat → Int32) (p : Nat) (c : Nat) (C : Nat → Int32) (b : Bool) (q : Nat) (tl : zTks) (hL : L ≤ 60) (hu1 : u ≤ 1) (hT : ∀ i, i < L → T i < 256) (htb : ∀ i, i < L → TB i = nI (T i)) (hp : p ≤ L) (hcp : c ≤ p) (hR : zLS T L (zQ T L u 3) 2 p = (b, q, tl)) : zTi ad bd l yX1_readPart wsX1_readPart ({ frames := 42, cells := 0, slots := 0, locals := 982 } : Room) D [(cI, .int), (cJ, .array .int)] [.ref h, .int (nI 2), .int (nI 2)] [(h, .inr (1, [.ref hl9, .ref ht, .int (nI L), .ref (ad u), .int (nI p)])), (hl9, .inr (0, [.ref hc, .int (nI c), .ref hst])), (hc, .inl (cI, 60, .inl C)), (ht, .inl (cI, 60, .inl TB))] (fun r w => ∃ (c9 : Nat) (C9 : Nat → Int32), c9 ≤ q ∧ (b = true → c9 = c + tl.length ∧ C9 = zapp C c tl) ∧ r = bI (b = true) ∧ w = [(h, .inr (1, [.ref hl9, .ref ht, .int (nI L), .ref (ad u), .int (nI q)])), (hl9, .inr (0, [.ref hc, .int (nI c9), .ref hst])), (hc, .inl (cI, 60, .inl C9)), (ht, .inl (cI, 60, .inl TB))]) := by
  refine zTi.start (cc := cX1_readPart) (maxL := 3) (rt := .boolean) (by first | decide | decide +kernel) rfl (Nat.le_of_ble_eq_true rfl) ?_
  intro pg ev s mt args below meth cd ls AA QQ ⟨hx, hb, hml, hr, hlocks, hown, hts, hK, hN, hZ, hP, hD, hA, hS, hl⟩ hG hret
  have hown : s.vm.findClass RX1 = some mt.cls := hown
  have hl : lv_has ls 3 [(0, .ref h), (1, .int (nI 2)), (2, .int (nI 2))] := hl
  have hin0 : ∀ w ∈ wsX00, w ∈ wsX1_readPart := fun w h => List.mem_cons_of_mem _ (List.mem_append_right _ (h))
  have hin1 : ∀ w ∈ wsX10, w ∈ wsX1_readPart := fun w h => List.mem_cons_of_mem _ (List.mem_append_left _ (List.mem_append_right _ (h)))
  refine lv_iload_n hx hb dX1_readPart_0 rfl (lv_at hl 1 rfl) ?_
  refine lv_iconst (v := nI 1) hx hb dX1_readPart_1 (by decide) ?_
  refine lv_iadd hx hb dX1_readPart_2 ?_
  refine zrw (nI_add _ _) ?_
  refine lv_iconst (v := nI 5) hx hb dX1_readPart_3 (by decide) ?_
  refine lv_icmp_ge (tgt := 18) hx hb dX1_readPart_4 (by decide) (fun c4_1 => ?_) (fun c4_1 => ?_)
  · have c4_1 : 5 ≤ 3 := (nI_leI (a := 5) (b := 3) (by omega) (by omega)).mp c4_1
    exact absurd c4_1 (by omega)
  · have c4_1 : ¬ (5 ≤ 3) := fun h9 => c4_1 ((nI_leI (a := 5) (b := 3) (by omega) (by omega)).mpr h9)
    refine lv_aload_n hx hb dX1_readPart_7 rfl (lv_at hl 0 rfl) ?_
    refine lv_iload_n hx hb dX1_readPart_8 rfl (lv_at hl 1 rfl) ?_
    refine lv_iconst (v := nI 1) hx hb dX1_readPart_9 (by decide) ?_
    refine lv_iadd hx hb dX1_readPart_10 ?_
    refine zrw (nI_add _ _) ?_
    refine lv_iload_n hx hb dX1_readPart_11 rfl (lv_at hl 2 rfl) ?_
    refine zci (wr := []) (va_runV (As := [.int (nI 3), .int (nI 2)]) (rest := []) ⟨hx, hb, hml, hown, hts⟩ (c_X1_readLevel_3_2 l D cI cJ ad bd h hl9 ht hc hst L u T TB p c C b q tl (by first | rfl | assumption | omega) (by first | rfl | assumption | omega) (by first | rfl | assumption | omega) (by first | rfl | assumption | omega) (by first | rfl | assumption | omega) (by first | rfl | assumption | omega) hR s.heap.size) (cwV 2 hts gX1_readPart_X1_readLevel rfl rfl rfl (by decide +kernel) ⟨Nat.le_of_ble_eq_true rfl, Nat.le_of_ble_eq_true rfl⟩) (zpVs hG hK hN hZ hP hD hS hA [0, 1, 2, 3] rfl (by decide) 0 rfl rfl rfl) rfl rfl hl.1 rfl (lv_room (Nat.le_of_ble_eq_true rfl)) dX1_readPart_12 ⟨Nat.zero_le _, Nat.zero_le _⟩) hP hD hS hA [0, 1, 2, 3] [] rfl rfl (by decide) (by decide) (fun r_4 w_3 H locs h_2 hP hD hS => ?_)
    obtain ⟨c9_5, C9_6, hq9_7, hx9_8, rfl, rfl⟩ := h_2
    have hP : va_P D vwCl [(h, .inr (1, [.ref hl9, .ref ht, .int (nI L), .ref (ad u), .int (nI q)])), (hl9, .inr (0, [.ref hc, .int (nI c9_5), .ref hst])), (hc, .inl (cI, 60, .inl C9_6)), (ht, .inl (cI, 60, .inl TB))] H := hP
    have hD : va_D AA [(h, .inr (1, [.ref hl9, .ref ht, .int (nI L), .ref (ad u), .int (nI q)])), (hl9, .inr (0, [.ref hc, .int (nI c9_5), .ref hst])), (hc, .inl (cI, 60, .inl C9_6)), (ht, .inl (cI, 60, .inl TB))] := hD
    refine lv_goto (tgt := 23) hx hb dX1_readPart_15 (by decide) ?_
    exact hret hP hD hS dX1_readPart_23 nar_bI (by exact ⟨_, _, hq9_7, hx9_8, rfl, rfl⟩)
set_option maxHeartbeats 4000000 in
set_option maxRecDepth 100000 in
theorem c_X1_readLevel_2_2 (l : Launch) (D : va_G) (cI cJ : ClassId) (ad : Nat → Nat) (bd : Nat → Nat) (h : Nat) (hl9 : Nat) (ht : Nat) (hc : Nat) (hst : Nat) (L : Nat) (u : Nat) (T : Nat → Nat) (TB : Nat → Int32) (p : Nat) (c : Nat) (C : Nat → Int32) (b : Bool) (q : Nat) (tl : zTks) (hL : L ≤ 60) (hu1 : u ≤ 1) (hT : ∀ i, i < L → T i < 256) (htb : ∀ i, i < L → TB i = nI (T i)) (hp : p ≤ L) (hcp : c ≤ p) (hR : zLS T L (zQ T L u 3) 3 p = (b, q, tl)) : zTi ad bd l yX1_readLevel wsX1_readLevel ({ frames := 43, cells := 0, slots := 0, locals := 1004 } : Room) D [(cI, .int), (cJ, .array .int)] [.ref h, .int (nI 2), .int (nI 2)] [(h, .inr (1, [.ref hl9, .ref ht, .int (nI L), .ref (ad u), .int (nI p)])), (hl9, .inr (0, [.ref hc, .int (nI c), .ref hst])), (hc, .inl (cI, 60, .inl C)), (ht, .inl (cI, 60, .inl TB))] (fun r w => ∃ (c9 : Nat) (C9 : Nat → Int32), c9 ≤ q ∧ (b = true → c9 = c + tl.length ∧ C9 = zapp C c tl) ∧ r = bI (b = true) ∧ w = [(h, .inr (1, [.ref hl9, .ref ht, .int (nI L), .ref (ad u), .int (nI q)])), (hl9, .inr (0, [.ref hc, .int (nI c9), .ref hst])), (hc, .inl (cI, 60, .inl C9)), (ht, .inl (cI, 60, .inl TB))]) := by
  refine zTi.start (cc := cX1_readLevel) (maxL := 6) (rt := .boolean) (by first | decide | decide +kernel) rfl (Nat.le_of_ble_eq_true rfl) ?_
  intro pg ev s mt args below meth cd ls AA QQ ⟨hx, hb, hml, hr, hlocks, hown, hts, hK, hN, hZ, hP, hD, hA, hS, hl⟩ hG hret
  have hown : s.vm.findClass RX1 = some mt.cls := hown
  have hl : lv_has ls 6 [(0, .ref h), (1, .int (nI 2)), (2, .int (nI 2))] := hl
  have hin0 : ∀ w ∈ wsX00, w ∈ wsX1_readLevel := fun w h => List.mem_cons_of_mem _ (List.mem_append_right _ (h))
  have hin1 : ∀ w ∈ wsX10, w ∈ wsX1_readLevel := fun w h => List.mem_cons_of_mem _ (List.mem_append_left _ (List.mem_append_right _ (h)))
  have hR : zLv T L 2 (zLS T L (zQ T L u 3) 2) p = (b, q, tl) := hR
  obtain ⟨b1, q1, t1, hR1⟩ : ∃ (b0 : Bool) (q0 : Nat) (t0 : zTks), zLS T L (zQ T L u 3) 2 p = (b0, q0, t0) := ⟨_, _, _, rfl⟩
  have hg1 := (zLS_gd (T := T) (zQ_gd (T := T) (L := L) (u := u) 3) 2) p (by omega)
  rw [hR1] at hg1
  obtain ⟨hga1, hgb1, hgc1⟩ : p ≤ q1 ∧ q1 ≤ L ∧ (b1 = true → p < q1 ∧ t1.length ≤ q1 - p ∧ zw1 t1) := hg1
  refine lv_aload_n hx hb dX1_readLevel_0 rfl (lv_at hl 0 rfl) ?_
  refine lv_iload_n hx hb dX1_readLevel_1 rfl (lv_at hl 1 rfl) ?_
  refine lv_iload_n hx hb dX1_readLevel_2 rfl (lv_at hl 2 rfl) ?_
  refine zci (wr := []) (va_runV (As := [.int (nI 2), .int (nI 2)]) (rest := []) ⟨hx, hb, hml, hown, hts⟩ (c_X1_readPart_2_2 l D cI cJ ad bd h hl9 ht hc hst L u T TB p c C b1 q1 t1 (by first | rfl | assumption | omega) (by first | rfl | assumption | omega) (by first | rfl | assumption | omega) (by first | rfl | assumption | omega) (by first | rfl | assumption | omega) (by first | rfl | assumption | omega) hR1 s.heap.size) (cwV 2 hts gX1_readLevel_X1_readPart rfl rfl rfl (by decide +kernel) ⟨Nat.le_of_ble_eq_true rfl, Nat.le_of_ble_eq_true rfl⟩) (zpVs hG hK hN hZ hP hD hS hA [0, 1, 2, 3] rfl (by decide) 0 rfl rfl rfl) rfl rfl hl.1 rfl (lv_room (Nat.le_of_ble_eq_true rfl)) dX1_readLevel_3 ⟨Nat.zero_le _, Nat.zero_le _⟩) hP hD hS hA [0, 1, 2, 3] [] rfl rfl (by decide) (by decide) (fun r_3 w_2 H locs h_1 hP hD hS => ?_)
  obtain ⟨c9_4, C9_5, hq9_6, hx9_7, rfl, rfl⟩ := h_1
  have hP : va_P D vwCl [(h, .inr (1, [.ref hl9, .ref ht, .int (nI L), .ref (ad u), .int (nI q1)])), (hl9, .inr (0, [.ref hc, .int (nI c9_4), .ref hst])), (hc, .inl (cI, 60, .inl C9_5)), (ht, .inl (cI, 60, .inl TB))] H := hP
  have hD : va_D AA [(h, .inr (1, [.ref hl9, .ref ht, .int (nI L), .ref (ad u), .int (nI q1)])), (hl9, .inr (0, [.ref hc, .int (nI c9_4), .ref hst])), (hc, .inl (cI, 60, .inl C9_5)), (ht, .inl (cI, 60, .inl TB))] := hD
  refine lv_if_ne (tgt := 11) hx hb dX1_readLevel_6 (by decide) (fun c6_8 => ?_) (fun c6_8 => ?_)
  · have c6_8 := bI_n0.mp c6_8
    obtain ⟨hgd1, hge1, hgf1⟩ := hgc1 c6_8
    obtain ⟨he1, hE1⟩ := hx9_7 c6_8
    subst he1; subst hE1
    have hz := zLv_tt hR hR1 c6_8
    refine lv_iload_n hx hb dX1_readLevel_11 rfl (lv_at hl 1 rfl) ?_
    refine lv_iconst (v := nI 2) hx hb dX1_readLevel_12 (by decide) ?_
    refine lv_icmp_ne (tgt := 20) hx hb dX1_readLevel_13 (by decide) (fun c13_9 => ?_) (fun c13_9 => ?_)
    · have c13_9 : ¬ (2 = 2) := fun h9 => c13_9 ((nI_eq (a := 2) (b := 2) (by omega) (by omega)).mpr h9)
      exact absurd c13_9 (by omega)
    · have c13_9 : 2 = 2 := (nI_eq (a := 2) (b := 2) (by omega) (by omega)).mp c13_9
      refine lv_iconst (v := nI 1) hx hb dX1_readLevel_16 (by decide) ?_
      refine lv_goto (tgt := 22) hx hb dX1_readLevel_17 (by decide) ?_
      refine lv_istore_n (lv' := [(3, .int (nI 1)), (0, .ref h), (1, .int (nI 2)), (2, .int (nI 2))]) hx hb dX1_readLevel_22 rfl hl (by decide) rfl (fun ls hl => ?_)
      refine lv_iconst (v := nI 0) hx hb dX1_readLevel_23 (by decide) ?_
      refine lv_istore (lv' := [(4, .int (nI 0)), (3, .int (nI 1)), (0, .ref h), (1, .int (nI 2)), (2, .int (nI 2))]) hx hb dX1_readLevel_24 hl (by decide) rfl (fun ls hl => ?_)
      refine lv_iload hx hb dX1_readLevel_26 (lv_at hl 0 rfl) ?_
      refine lv_iload_n hx hb dX1_readLevel_28 rfl (lv_at hl 1 rfl) ?_
      refine lv_icmp_ge (tgt := 107) hx hb dX1_readLevel_29 (by decide) (fun c29_10 => ?_) (fun c29_10 => ?_)
      · have c29_10 : 1 ≤ 0 := (nI_leI (a := 1) (b := 0) (by omega) (by omega)).mp c29_10
        exact absurd c29_10 (by omega)
      · have c29_10 : ¬ (1 ≤ 0) := fun h9 => c29_10 ((nI_leI (a := 1) (b := 0) (by omega) (by omega)).mpr h9)
        refine lv_aload_n hx hb dX1_readLevel_32 rfl (lv_at hl 2 rfl) ?_
        refine va_get (ci := 1) (v := .int (nI q1)) (C := RX1) (T := TX1) (N := 5) hx hb hts hin1 hown hK hP 0 rfl rfl 4 (by decide) (hts (.fieldLink RX1 32 "UpAllRound$Reader" "place" "I") (List.mem_of_getElem? (i := 1) rfl)) (fun _ h9 => h9) rfl dX1_readLevel_33 ?_
        refine lv_aload_n hx hb dX1_readLevel_36 rfl (lv_at hl 2 rfl) ?_
        refine va_get (ci := 1) (v := .int (nI L)) (C := RX1) (T := TX1) (N := 5) hx hb hts hin1 hown hK hP 0 rfl rfl 2 (by decide) (hts (.fieldLink RX1 22 "UpAllRound$Reader" "length" "I") (List.mem_of_getElem? (i := 2) rfl)) (fun _ h9 => h9) rfl dX1_readLevel_37 ?_
        refine lv_icmp_ge (tgt := 107) hx hb dX1_readLevel_40 (by decide) (fun c40_11 => ?_) (fun c40_11 => ?_)
        · have c40_11 : L ≤ q1 := (nI_leI (a := L) (b := q1) (by omega) (by omega)).mp c40_11
          refine lv_iconst (v := nI 1) hx hb dX1_readLevel_107 (by decide) ?_
          exact hret hP hD hS dX1_readLevel_108 rfl (by obtain ⟨e1, e2, e3⟩ := zLe (f := 60) hz (by omega); subst e1; subst e2; subst e3; exact ⟨_, _, by omega, fun _ => ⟨rfl, rfl⟩, (bI_t rfl).symm, rfl⟩)
        · have c40_11 : ¬ (L ≤ q1) := fun h9 => c40_11 ((nI_leI (a := L) (b := q1) (by omega) (by omega)).mpr h9)
          refine lv_aload_n hx hb dX1_readLevel_43 rfl (lv_at hl 2 rfl) ?_
          refine va_get (ci := 1) (v := .ref ht) (C := RX1) (T := TX1) (N := 5) hx hb hts hin1 hown hK hP 0 rfl rfl 1 (by decide) (hts (.fieldLink RX1 18 "UpAllRound$Reader" "tape" "[I") (List.mem_of_getElem? (i := 3) rfl)) (fun _ h9 => h9) rfl dX1_readLevel_44 ?_
          refine lv_aload_n hx hb dX1_readLevel_47 rfl (lv_at hl 2 rfl) ?_
          refine va_get (ci := 1) (v := .int (nI q1)) (C := RX1) (T := TX1) (N := 5) hx hb hts hin1 hown hK hP 0 rfl rfl 4 (by decide) (hts (.fieldLink RX1 32 "UpAllRound$Reader" "place" "I") (List.mem_of_getElem? (i := 1) rfl)) (fun _ h9 => h9) rfl dX1_readLevel_48 ?_
          refine zald (t := q1) hx hb hK hP 3 rfl (by omega) (by decide) dX1_readLevel_51 ?_
          refine zrw (htb q1 (by omega)) ?_
          refine zcsE (va_runS (As := [.int (nI (T q1))]) (rest := []) ⟨hx, hb, hml, hown, hts⟩ (c_X1_levelOf l D cI cJ (T q1) (hT q1 (by omega)) H.size) (va_cwS 1 hts gX1_readLevel_X1_levelOf rfl rfl rfl (by decide +kernel) ⟨Nat.le_of_ble_eq_true rfl, Nat.le_of_ble_eq_true rfl⟩) (zpS hK hN hZ hP hD hS hA [] rfl (by decide)) rfl rfl hl.1 rfl (lv_room (Nat.le_of_ble_eq_true rfl)) dX1_readLevel_52 ⟨Nat.zero_le _, Nat.zero_le _⟩) ?_
          refine lv_iload_n hx hb dX1_readLevel_55 rfl (lv_at hl 3 rfl) ?_
          refine lv_icmp_ne (tgt := 107) hx hb dX1_readLevel_56 (by decide) (fun c56_12 => ?_) (fun c56_12 => ?_)
          · have c56_12 : ¬ (((zlv (T q1))) = 2) := fun h9 => c56_12 ((nI_eq (a := (zlv (T q1))) (b := 2) (by have h91 := zlv_le (T q1); omega) (by have h91 := zlv_le (T q1); omega)).mpr h9)
            refine lv_iconst (v := nI 1) hx hb dX1_readLevel_107 (by decide) ?_
            exact hret hP hD hS dX1_readLevel_108 rfl (by obtain ⟨e1, e2, e3⟩ := zLe (f := 60) hz (by omega); subst e1; subst e2; subst e3; exact ⟨_, _, by omega, fun _ => ⟨rfl, rfl⟩, (bI_t rfl).symm, rfl⟩)
          · have c56_12 : ((zlv (T q1))) = 2 := (nI_eq (a := (zlv (T q1))) (b := 2) (by have h91 := zlv_le (T q1); omega) (by have h91 := zlv_le (T q1); omega)).mp c56_12
            refine lv_aload_n hx hb dX1_readLevel_59 rfl (lv_at hl 2 rfl) ?_
            refine va_get (ci := 1) (v := .ref ht) (C := RX1) (T := TX1) (N := 5) hx hb hts hin1 hown hK hP 0 rfl rfl 1 (by decide) (hts (.fieldLink RX1 18 "UpAllRound$Reader" "tape" "[I") (List.mem_of_getElem? (i := 3) rfl)) (fun _ h9 => h9) rfl dX1_readLevel_60 ?_
            refine lv_aload_n hx hb dX1_readLevel_63 rfl (lv_at hl 2 rfl) ?_
            refine va_get (ci := 1) (v := .int (nI q1)) (C := RX1) (T := TX1) (N := 5) hx hb hts hin1 hown hK hP 0 rfl rfl 4 (by decide) (hts (.fieldLink RX1 32 "UpAllRound$Reader" "place" "I") (List.mem_of_getElem? (i := 1) rfl)) (fun _ h9 => h9) rfl dX1_readLevel_64 ?_
            refine zald (t := q1) hx hb hK hP 3 rfl (by omega) (by decide) dX1_readLevel_67 ?_
            refine zrw (htb q1 (by omega)) ?_
            refine lv_istore (lv' := [(5, .int (nI (T q1))), (4, .int (nI 0)), (3, .int (nI 1)), (0, .ref h), (1, .int (nI 2)), (2, .int (nI 2))]) hx hb dX1_readLevel_68 hl (by decide) rfl (fun ls hl => ?_)
            refine lv_aload_n hx hb dX1_readLevel_70 rfl (lv_at hl 3 rfl) ?_
            refine lv_dup hx hb dX1_readLevel_71 rfl ?_
            refine va_get (ci := 1) (v := .int (nI q1)) (C := RX1) (T := TX1) (N := 5) hx hb hts hin1 hown hK hP 0 rfl rfl 4 (by decide) (hts (.fieldLink RX1 32 "UpAllRound$Reader" "place" "I") (List.mem_of_getElem? (i := 1) rfl)) (fun _ h9 => h9) rfl dX1_readLevel_72 ?_
            refine lv_iconst (v := nI 1) hx hb dX1_readLevel_75 (by decide) ?_
            refine lv_iadd hx hb dX1_readLevel_76 ?_
            refine zrw (nI_add _ _) ?_
            refine va_put (ci := 1) (v := .int (nI (q1 + 1))) (ty := .int) (C := RX1) (T := TX1) (N := 5) hx hb hts hin1 tyX1 tyX1_ok nmX1 hown hK hP hD hS 0 rfl rfl 4 (by decide) (hts (.fieldLink RX1 32 "UpAllRound$Reader" "place" "I") (List.mem_of_getElem? (i := 1) rfl)) (fun _ h9 => h9) rfl (by decide +kernel) rfl rfl (Nat.le_of_ble_eq_true rfl) dX1_readLevel_77 (fun H locs hP hD hS => ?_)
            have hP : va_P D vwCl [(h, .inr (1, [.ref hl9, .ref ht, .int (nI L), .ref (ad u), .int (nI (q1 + 1))])), (hl9, .inr (0, [.ref hc, .int (nI ((c + t1.length))), .ref hst])), (hc, .inl (cI, 60, .inl (zapp C c t1))), (ht, .inl (cI, 60, .inl TB))] H := hP
            have hD : va_D AA [(h, .inr (1, [.ref hl9, .ref ht, .int (nI L), .ref (ad u), .int (nI (q1 + 1))])), (hl9, .inr (0, [.ref hc, .int (nI ((c + t1.length))), .ref hst])), (hc, .inl (cI, 60, .inl (zapp C c t1))), (ht, .inl (cI, 60, .inl TB))] := hD
            obtain ⟨b2, q2, t2, hR2⟩ : ∃ (b0 : Bool) (q0 : Nat) (t0 : zTks), zLS T L (zQ T L u 3) 2 (q1 + 1) = (b0, q0, t0) := ⟨_, _, _, rfl⟩
            have hg2 := (zLS_gd (T := T) (zQ_gd (T := T) (L := L) (u := u) 3) 2) (q1 + 1) (by omega)
            rw [hR2] at hg2
            obtain ⟨hga2, hgb2, hgc2⟩ : (q1 + 1) ≤ q2 ∧ q2 ≤ L ∧ (b2 = true → (q1 + 1) < q2 ∧ t2.length ≤ q2 - (q1 + 1) ∧ zw1 t2) := hg2
            refine lv_aload_n hx hb dX1_readLevel_80 rfl (lv_at hl 3 rfl) ?_
            refine lv_iload_n hx hb dX1_readLevel_81 rfl (lv_at hl 4 rfl) ?_
            refine lv_iload_n hx hb dX1_readLevel_82 rfl (lv_at hl 5 rfl) ?_
            refine zci (wr := []) (va_runV (As := [.int (nI 2), .int (nI 2)]) (rest := []) ⟨hx, hb, hml, hown, hts⟩ (c_X1_readPart_2_2 l D cI cJ ad bd h hl9 ht hc hst L u T TB (q1 + 1) ((c + t1.length)) (zapp C c t1) b2 q2 t2 (by first | rfl | assumption | omega) (by first | rfl | assumption | omega) (by first | rfl | assumption | omega) (by first | rfl | assumption | omega) (by omega) (by omega) hR2 H.size) (cwV 2 hts gX1_readLevel_X1_readPart rfl rfl rfl (by decide +kernel) ⟨Nat.le_of_ble_eq_true rfl, Nat.le_of_ble_eq_true rfl⟩) (zpVs hG hK hN hZ hP hD hS hA [0, 1, 2, 3] rfl (by decide) 0 rfl rfl rfl) rfl rfl hl.1 rfl (lv_room (Nat.le_of_ble_eq_true rfl)) dX1_readLevel_83 ⟨Nat.zero_le _, Nat.zero_le _⟩) hP hD hS hA [0, 1, 2, 3] [] rfl rfl (by decide) (by decide) (fun r_15 w_14 H locs h_13 hP hD hS => ?_)
            obtain ⟨c9_16, C9_17, hq9_18, hx9_19, rfl, rfl⟩ := h_13
            have hP : va_P D vwCl [(h, .inr (1, [.ref hl9, .ref ht, .int (nI L), .ref (ad u), .int (nI q2)])), (hl9, .inr (0, [.ref hc, .int (nI c9_16), .ref hst])), (hc, .inl (cI, 60, .inl C9_17)), (ht, .inl (cI, 60, .inl TB))] H := hP
            have hD : va_D AA [(h, .inr (1, [.ref hl9, .ref ht, .int (nI L), .ref (ad u), .int (nI q2)])), (hl9, .inr (0, [.ref hc, .int (nI c9_16), .ref hst])), (hc, .inl (cI, 60, .inl C9_17)), (ht, .inl (cI, 60, .inl TB))] := hD
            refine lv_if_ne (tgt := 91) hx hb dX1_readLevel_86 (by decide) (fun c86_20 => ?_) (fun c86_20 => ?_)
            · have c86_20 := bI_n0.mp c86_20
              obtain ⟨hgd2, hge2, hgf2⟩ := hgc2 c86_20
              obtain ⟨he2, hE2⟩ := hx9_19 c86_20
              subst he2; subst hE2
              refine lv_aload_n hx hb dX1_readLevel_91 rfl (lv_at hl 3 rfl) ?_
              refine va_get (ci := 1) (v := .ref hl9) (C := RX1) (T := TX1) (N := 5) hx hb hts hin1 hown hK hP 0 rfl rfl 0 (by decide) (hts (.fieldLink RX1 12 "UpAllRound$Reader" "law" "LUpAllRound$Law;") (List.mem_of_getElem? (i := 4) rfl)) (fun _ h9 => h9) rfl dX1_readLevel_92 ?_
              refine lv_iload hx hb dX1_readLevel_95 (lv_at hl 0 rfl) ?_
              refine lv_ineg hx hb dX1_readLevel_97 ?_
              refine zcv (wr := [(h, .inr (1, [.ref hl9, .ref ht, .int (nI L), .ref (ad u), .int (nI q2)])), (ht, .inl (cI, 60, .inl TB))]) (va_runVN (As := [.int (-(nI (T q1)))]) (rest := []) ⟨hx, hb, hml, hown, hts⟩ (c_X0_add l D cI cJ hl9 hc hst ((c + t1.length + t2.length)) (zapp (zapp C c t1) (c + t1.length) t2) (-(nI (T q1))) (by omega) H.size) ⟨va_cnB 1 hts gX1_readLevel_X0_add_n61 rfl rfl rfl (hN (.methodLinkNest "UpAllRound$Reader" 61 yX0_add "UpAllRound") (List.mem_of_getElem? (i := 38) rfl)) (hts (.initialized RX0) (List.mem_of_getElem? (i := 13) rfl)) (by decide +kernel) ⟨Nat.le_of_ble_eq_true rfl, Nat.le_of_ble_eq_true rfl⟩, (hts (.instanceMethod yX0_add) (List.mem_of_getElem? (i := 12) rfl)), (hts (.selects RX0 yX0_add yX0_add) (List.mem_of_getElem? (i := 14) rfl))⟩ (zpV hK hN hZ hP hD hS hA [1, 2] rfl (by decide) 1 rfl rfl rfl) rfl rfl hl.1 rfl (lv_room (Nat.le_of_ble_eq_true rfl)) dX1_readLevel_98 ⟨Nat.zero_le _, Nat.zero_le _⟩) hP hD hS hA [1, 2] [0, 3] rfl rfl (by decide) (by decide) (fun w_22 H locs h_21 hP hD hS => ?_)
              obtain rfl := h_21
              have hP : va_P D vwCl [(h, .inr (1, [.ref hl9, .ref ht, .int (nI L), .ref (ad u), .int (nI q2)])), (ht, .inl (cI, 60, .inl TB)), (hl9, .inr (0, [.ref hc, .int (nI (((c + t1.length + t2.length)) + 1)), .ref hst])), (hc, .inl (cI, 60, .inl (upd (zapp (zapp C c t1) (c + t1.length) t2) ((c + t1.length + t2.length)) (-(nI (T q1))))))] H := hP
              have hD : va_D AA [(h, .inr (1, [.ref hl9, .ref ht, .int (nI L), .ref (ad u), .int (nI q2)])), (ht, .inl (cI, 60, .inl TB)), (hl9, .inr (0, [.ref hc, .int (nI (((c + t1.length + t2.length)) + 1)), .ref hst])), (hc, .inl (cI, 60, .inl (upd (zapp (zapp C c t1) (c + t1.length) t2) ((c + t1.length + t2.length)) (-(nI (T q1))))))] := hD
              refine lv_iinc (v := nI (0 + 1)) (lv' := [(4, .int (nI (0 + 1))), (5, .int (nI (T q1))), (3, .int (nI 1)), (0, .ref h), (1, .int (nI 2)), (2, .int (nI 2))]) hx hb dX1_readLevel_101 hl (k := 1) rfl (nI_add _ _) (by decide) rfl (fun ls hl => ?_)
              refine lv_goto (tgt := 26) hx hb dX1_readLevel_104 (by decide) ?_
              refine lv_iload hx hb dX1_readLevel_26 (lv_at hl 0 rfl) ?_
              refine lv_iload_n hx hb dX1_readLevel_28 rfl (lv_at hl 2 rfl) ?_
              refine lv_icmp_ge (tgt := 107) hx hb dX1_readLevel_29 (by decide) (fun c29_23 => ?_) (fun c29_23 => ?_)
              · have c29_23 : 1 ≤ (0 + 1) := (nI_leI (a := 1) (b := 0 + 1) (by omega) (by omega)).mp c29_23
                refine lv_iconst (v := nI 1) hx hb dX1_readLevel_107 (by decide) ?_
                have hP := hP.sub (ws' := [(h, .inr (1, [.ref hl9, .ref ht, .int (nI L), .ref (ad u), .int (nI q2)])), (hl9, .inr (0, [.ref hc, .int (nI (((c + t1.length + t2.length)) + 1)), .ref hst])), (hc, .inl (cI, 60, .inl (upd (zapp (zapp C c t1) (c + t1.length) t2) ((c + t1.length + t2.length)) (-(nI (T q1)))))), (ht, .inl (cI, 60, .inl TB))]) [0, 2, 3, 1] rfl
                have hD := hD.sub (ws' := [(h, .inr (1, [.ref hl9, .ref ht, .int (nI L), .ref (ad u), .int (nI q2)])), (hl9, .inr (0, [.ref hc, .int (nI (((c + t1.length + t2.length)) + 1)), .ref hst])), (hc, .inl (cI, 60, .inl (upd (zapp (zapp C c t1) (c + t1.length) t2) ((c + t1.length + t2.length)) (-(nI (T q1)))))), (ht, .inl (cI, 60, .inl TB))]) [0, 2, 3, 1] (by decide) rfl
                exact hret hP hD hS dX1_readLevel_108 rfl (by obtain ⟨e1, e2, e3⟩ := zL2 hz ⟨by omega, by omega⟩ hR2 (by assumption); subst e1; subst e2; subst e3; exact ⟨_, _, by omega, fun _ => ⟨zlen1, zapp1⟩, (bI_t rfl).symm, rfl⟩)
              · have c29_23 : ¬ (1 ≤ (0 + 1)) := fun h9 => c29_23 ((nI_leI (a := 1) (b := 0 + 1) (by omega) (by omega)).mpr h9)
                exact absurd c29_23 (by omega)
            · have c86_20 := bI_0.mp c86_20
              refine lv_iconst (v := nI 0) hx hb dX1_readLevel_89 (by decide) ?_
              exact hret hP hD hS dX1_readLevel_90 rfl (by obtain ⟨e1, e2⟩ := zLf hz ⟨by omega, by omega⟩ hR2 (by assumption); subst e1; subst e2; exact ⟨_, _, hq9_18, fun h9 => (by cases h9), (bI_f (by decide)).symm, rfl⟩)
  · have c6_8 := bI_0.mp c6_8
    refine lv_iconst (v := nI 0) hx hb dX1_readLevel_9 (by decide) ?_
    exact hret hP hD hS dX1_readLevel_10 rfl (by obtain ⟨e1, e2⟩ := zLv_ff hR hR1 (by assumption); subst e1; subst e2; exact ⟨_, _, hq9_6, fun h9 => (by cases h9), (bI_f (by decide)).symm, rfl⟩)
set_option maxHeartbeats 4000000 in
set_option maxRecDepth 100000 in
theorem c_X1_readPart_1_2 (l : Launch) (D : va_G) (cI cJ : ClassId) (ad : Nat → Nat) (bd : Nat → Nat) (h : Nat) (hl9 : Nat) (ht : Nat) (hc : Nat) (hst : Nat) (L : Nat) (u : Nat) (T : Nat → Nat) (TB : Nat → Int32) (p : Nat) (c : Nat) (C : Nat → Int32) (b : Bool) (q : Nat) (tl : zTks) (hL : L ≤ 60) (hu1 : u ≤ 1) (hT : ∀ i, i < L → T i < 256) (htb : ∀ i, i < L → TB i = nI (T i)) (hp : p ≤ L) (hcp : c ≤ p) (hR : zLS T L (zQ T L u 3) 3 p = (b, q, tl)) : zTi ad bd l yX1_readPart wsX1_readPart ({ frames := 44, cells := 0, slots := 0, locals := 1029 } : Room) D [(cI, .int), (cJ, .array .int)] [.ref h, .int (nI 1), .int (nI 2)] [(h, .inr (1, [.ref hl9, .ref ht, .int (nI L), .ref (ad u), .int (nI p)])), (hl9, .inr (0, [.ref hc, .int (nI c), .ref hst])), (hc, .inl (cI, 60, .inl C)), (ht, .inl (cI, 60, .inl TB))] (fun r w => ∃ (c9 : Nat) (C9 : Nat → Int32), c9 ≤ q ∧ (b = true → c9 = c + tl.length ∧ C9 = zapp C c tl) ∧ r = bI (b = true) ∧ w = [(h, .inr (1, [.ref hl9, .ref ht, .int (nI L), .ref (ad u), .int (nI q)])), (hl9, .inr (0, [.ref hc, .int (nI c9), .ref hst])), (hc, .inl (cI, 60, .inl C9)), (ht, .inl (cI, 60, .inl TB))]) := by
  refine zTi.start (cc := cX1_readPart) (maxL := 3) (rt := .boolean) (by first | decide | decide +kernel) rfl (Nat.le_of_ble_eq_true rfl) ?_
  intro pg ev s mt args below meth cd ls AA QQ ⟨hx, hb, hml, hr, hlocks, hown, hts, hK, hN, hZ, hP, hD, hA, hS, hl⟩ hG hret
  have hown : s.vm.findClass RX1 = some mt.cls := hown
  have hl : lv_has ls 3 [(0, .ref h), (1, .int (nI 1)), (2, .int (nI 2))] := hl
  have hin0 : ∀ w ∈ wsX00, w ∈ wsX1_readPart := fun w h => List.mem_cons_of_mem _ (List.mem_append_right _ (h))
  have hin1 : ∀ w ∈ wsX10, w ∈ wsX1_readPart := fun w h => List.mem_cons_of_mem _ (List.mem_append_left _ (List.mem_append_right _ (h)))
  refine lv_iload_n hx hb dX1_readPart_0 rfl (lv_at hl 1 rfl) ?_
  refine lv_iconst (v := nI 1) hx hb dX1_readPart_1 (by decide) ?_
  refine lv_iadd hx hb dX1_readPart_2 ?_
  refine zrw (nI_add _ _) ?_
  refine lv_iconst (v := nI 5) hx hb dX1_readPart_3 (by decide) ?_
  refine lv_icmp_ge (tgt := 18) hx hb dX1_readPart_4 (by decide) (fun c4_1 => ?_) (fun c4_1 => ?_)
  · have c4_1 : 5 ≤ 2 := (nI_leI (a := 5) (b := 2) (by omega) (by omega)).mp c4_1
    exact absurd c4_1 (by omega)
  · have c4_1 : ¬ (5 ≤ 2) := fun h9 => c4_1 ((nI_leI (a := 5) (b := 2) (by omega) (by omega)).mpr h9)
    refine lv_aload_n hx hb dX1_readPart_7 rfl (lv_at hl 0 rfl) ?_
    refine lv_iload_n hx hb dX1_readPart_8 rfl (lv_at hl 1 rfl) ?_
    refine lv_iconst (v := nI 1) hx hb dX1_readPart_9 (by decide) ?_
    refine lv_iadd hx hb dX1_readPart_10 ?_
    refine zrw (nI_add _ _) ?_
    refine lv_iload_n hx hb dX1_readPart_11 rfl (lv_at hl 2 rfl) ?_
    refine zci (wr := []) (va_runV (As := [.int (nI 2), .int (nI 2)]) (rest := []) ⟨hx, hb, hml, hown, hts⟩ (c_X1_readLevel_2_2 l D cI cJ ad bd h hl9 ht hc hst L u T TB p c C b q tl (by first | rfl | assumption | omega) (by first | rfl | assumption | omega) (by first | rfl | assumption | omega) (by first | rfl | assumption | omega) (by first | rfl | assumption | omega) (by first | rfl | assumption | omega) hR s.heap.size) (cwV 2 hts gX1_readPart_X1_readLevel rfl rfl rfl (by decide +kernel) ⟨Nat.le_of_ble_eq_true rfl, Nat.le_of_ble_eq_true rfl⟩) (zpVs hG hK hN hZ hP hD hS hA [0, 1, 2, 3] rfl (by decide) 0 rfl rfl rfl) rfl rfl hl.1 rfl (lv_room (Nat.le_of_ble_eq_true rfl)) dX1_readPart_12 ⟨Nat.zero_le _, Nat.zero_le _⟩) hP hD hS hA [0, 1, 2, 3] [] rfl rfl (by decide) (by decide) (fun r_4 w_3 H locs h_2 hP hD hS => ?_)
    obtain ⟨c9_5, C9_6, hq9_7, hx9_8, rfl, rfl⟩ := h_2
    have hP : va_P D vwCl [(h, .inr (1, [.ref hl9, .ref ht, .int (nI L), .ref (ad u), .int (nI q)])), (hl9, .inr (0, [.ref hc, .int (nI c9_5), .ref hst])), (hc, .inl (cI, 60, .inl C9_6)), (ht, .inl (cI, 60, .inl TB))] H := hP
    have hD : va_D AA [(h, .inr (1, [.ref hl9, .ref ht, .int (nI L), .ref (ad u), .int (nI q)])), (hl9, .inr (0, [.ref hc, .int (nI c9_5), .ref hst])), (hc, .inl (cI, 60, .inl C9_6)), (ht, .inl (cI, 60, .inl TB))] := hD
    refine lv_goto (tgt := 23) hx hb dX1_readPart_15 (by decide) ?_
    exact hret hP hD hS dX1_readPart_23 nar_bI (by exact ⟨_, _, hq9_7, hx9_8, rfl, rfl⟩)
set_option maxHeartbeats 4000000 in
set_option maxRecDepth 100000 in
theorem c_X1_readLevel_1_2 (l : Launch) (D : va_G) (cI cJ : ClassId) (ad : Nat → Nat) (bd : Nat → Nat) (h : Nat) (hl9 : Nat) (ht : Nat) (hc : Nat) (hst : Nat) (L : Nat) (u : Nat) (T : Nat → Nat) (TB : Nat → Int32) (p : Nat) (c : Nat) (C : Nat → Int32) (b : Bool) (q : Nat) (tl : zTks) (hL : L ≤ 60) (hu1 : u ≤ 1) (hT : ∀ i, i < L → T i < 256) (htb : ∀ i, i < L → TB i = nI (T i)) (hp : p ≤ L) (hcp : c ≤ p) (hR : zLS T L (zQ T L u 3) 4 p = (b, q, tl)) : zTi ad bd l yX1_readLevel wsX1_readLevel ({ frames := 45, cells := 0, slots := 0, locals := 1051 } : Room) D [(cI, .int), (cJ, .array .int)] [.ref h, .int (nI 1), .int (nI 2)] [(h, .inr (1, [.ref hl9, .ref ht, .int (nI L), .ref (ad u), .int (nI p)])), (hl9, .inr (0, [.ref hc, .int (nI c), .ref hst])), (hc, .inl (cI, 60, .inl C)), (ht, .inl (cI, 60, .inl TB))] (fun r w => ∃ (c9 : Nat) (C9 : Nat → Int32), c9 ≤ q ∧ (b = true → c9 = c + tl.length ∧ C9 = zapp C c tl) ∧ r = bI (b = true) ∧ w = [(h, .inr (1, [.ref hl9, .ref ht, .int (nI L), .ref (ad u), .int (nI q)])), (hl9, .inr (0, [.ref hc, .int (nI c9), .ref hst])), (hc, .inl (cI, 60, .inl C9)), (ht, .inl (cI, 60, .inl TB))]) := by
  refine zTi.start (cc := cX1_readLevel) (maxL := 6) (rt := .boolean) (by first | decide | decide +kernel) rfl (Nat.le_of_ble_eq_true rfl) ?_
  intro pg ev s mt args below meth cd ls AA QQ ⟨hx, hb, hml, hr, hlocks, hown, hts, hK, hN, hZ, hP, hD, hA, hS, hl⟩ hG hret
  have hown : s.vm.findClass RX1 = some mt.cls := hown
  have hl : lv_has ls 6 [(0, .ref h), (1, .int (nI 1)), (2, .int (nI 2))] := hl
  have hin0 : ∀ w ∈ wsX00, w ∈ wsX1_readLevel := fun w h => List.mem_cons_of_mem _ (List.mem_append_right _ (h))
  have hin1 : ∀ w ∈ wsX10, w ∈ wsX1_readLevel := fun w h => List.mem_cons_of_mem _ (List.mem_append_left _ (List.mem_append_right _ (h)))
  have hR : zLv T L 1 (zLS T L (zQ T L u 3) 3) p = (b, q, tl) := hR
  obtain ⟨b1, q1, t1, hR1⟩ : ∃ (b0 : Bool) (q0 : Nat) (t0 : zTks), zLS T L (zQ T L u 3) 3 p = (b0, q0, t0) := ⟨_, _, _, rfl⟩
  have hg1 := (zLS_gd (T := T) (zQ_gd (T := T) (L := L) (u := u) 3) 3) p (by omega)
  rw [hR1] at hg1
  obtain ⟨hga1, hgb1, hgc1⟩ : p ≤ q1 ∧ q1 ≤ L ∧ (b1 = true → p < q1 ∧ t1.length ≤ q1 - p ∧ zw1 t1) := hg1
  refine lv_aload_n hx hb dX1_readLevel_0 rfl (lv_at hl 0 rfl) ?_
  refine lv_iload_n hx hb dX1_readLevel_1 rfl (lv_at hl 1 rfl) ?_
  refine lv_iload_n hx hb dX1_readLevel_2 rfl (lv_at hl 2 rfl) ?_
  refine zci (wr := []) (va_runV (As := [.int (nI 1), .int (nI 2)]) (rest := []) ⟨hx, hb, hml, hown, hts⟩ (c_X1_readPart_1_2 l D cI cJ ad bd h hl9 ht hc hst L u T TB p c C b1 q1 t1 (by first | rfl | assumption | omega) (by first | rfl | assumption | omega) (by first | rfl | assumption | omega) (by first | rfl | assumption | omega) (by first | rfl | assumption | omega) (by first | rfl | assumption | omega) hR1 s.heap.size) (cwV 2 hts gX1_readLevel_X1_readPart rfl rfl rfl (by decide +kernel) ⟨Nat.le_of_ble_eq_true rfl, Nat.le_of_ble_eq_true rfl⟩) (zpVs hG hK hN hZ hP hD hS hA [0, 1, 2, 3] rfl (by decide) 0 rfl rfl rfl) rfl rfl hl.1 rfl (lv_room (Nat.le_of_ble_eq_true rfl)) dX1_readLevel_3 ⟨Nat.zero_le _, Nat.zero_le _⟩) hP hD hS hA [0, 1, 2, 3] [] rfl rfl (by decide) (by decide) (fun r_3 w_2 H locs h_1 hP hD hS => ?_)
  obtain ⟨c9_4, C9_5, hq9_6, hx9_7, rfl, rfl⟩ := h_1
  have hP : va_P D vwCl [(h, .inr (1, [.ref hl9, .ref ht, .int (nI L), .ref (ad u), .int (nI q1)])), (hl9, .inr (0, [.ref hc, .int (nI c9_4), .ref hst])), (hc, .inl (cI, 60, .inl C9_5)), (ht, .inl (cI, 60, .inl TB))] H := hP
  have hD : va_D AA [(h, .inr (1, [.ref hl9, .ref ht, .int (nI L), .ref (ad u), .int (nI q1)])), (hl9, .inr (0, [.ref hc, .int (nI c9_4), .ref hst])), (hc, .inl (cI, 60, .inl C9_5)), (ht, .inl (cI, 60, .inl TB))] := hD
  refine lv_if_ne (tgt := 11) hx hb dX1_readLevel_6 (by decide) (fun c6_8 => ?_) (fun c6_8 => ?_)
  · have c6_8 := bI_n0.mp c6_8
    obtain ⟨hgd1, hge1, hgf1⟩ := hgc1 c6_8
    obtain ⟨he1, hE1⟩ := hx9_7 c6_8
    subst he1; subst hE1
    have hz := zLv_tt hR hR1 c6_8
    refine lv_iload_n hx hb dX1_readLevel_11 rfl (lv_at hl 1 rfl) ?_
    refine lv_iconst (v := nI 2) hx hb dX1_readLevel_12 (by decide) ?_
    refine lv_icmp_ne (tgt := 20) hx hb dX1_readLevel_13 (by decide) (fun c13_9 => ?_) (fun c13_9 => ?_)
    · have c13_9 : ¬ (1 = 2) := fun h9 => c13_9 ((nI_eq (a := 1) (b := 2) (by omega) (by omega)).mpr h9)
      refine lv_bipush (v := nI 60) hx hb dX1_readLevel_20 (by decide) ?_
      refine lv_istore_n (lv' := [(3, .int (nI 60)), (0, .ref h), (1, .int (nI 1)), (2, .int (nI 2))]) hx hb dX1_readLevel_22 rfl hl (by decide) rfl (fun ls hl => ?_)
      refine lv_iconst (v := nI 0) hx hb dX1_readLevel_23 (by decide) ?_
      refine lv_istore (lv' := [(4, .int (nI 0)), (3, .int (nI 60)), (0, .ref h), (1, .int (nI 1)), (2, .int (nI 2))]) hx hb dX1_readLevel_24 hl (by decide) rfl (fun ls hl => ?_)
      have L_26 : ∀ (fu : Nat) (f : Nat) (pv : Nat) (ta : zTks) (i : Nat) (hn : f < fu) (hz : zct ta (zLp T L 1 (zLS T L (zQ T L u 3) 3) f pv) = (b, q, tl)) (hf : L - pv < f) (hpv : pv ≤ L) (hca : c + ta.length ≤ pv) (hi1 : i + 1 ≤ pv), ∀ (ls : Array Slot), lv_has ls 6 [(0, .ref h), (1, .int (nI 1)), (2, .int (nI 2)), (3, .int (nI 60)), (4, .int (nI i))] → ∀ (H : Heap) (locs : List Loc), va_P D vwCl [(h, .inr (1, [.ref hl9, .ref ht, .int (nI L), .ref (ad u), .int (nI pv)])), (hl9, .inr (0, [.ref hc, .int (nI ((c + ta.length))), .ref hst])), (hc, .inl (cI, 60, .inl (zapp C c ta))), (ht, .inl (cI, 60, .inl TB))] H → va_D AA [(h, .inr (1, [.ref hl9, .ref ht, .int (nI L), .ref (ad u), .int (nI pv)])), (hl9, .inr (0, [.ref hc, .int (nI ((c + ta.length))), .ref hst])), (hc, .inl (cI, 60, .inl (zapp C c ta))), (ht, .inl (cI, 60, .inl TB))] → va_S AA s.heap H locs → W pg l ev ({ frames := 45, cells := 0, slots := 0, locals := 1051 } : Room) s mt args below meth cd H locs 0 0 QQ (F0 mt 26 ls []) := by
        intro fu
        induction fu with
        | zero =>
          intro  f pv ta i  hn
          exact absurd hn (by omega)
        | succ fu ih_26 =>
          intro  f pv ta i  hn hz hf hpv hca hi1 ls hl H locs hP hD hS
          obtain ⟨f1, rfl⟩ : ∃ f1, f = f1 + 1 := ⟨f - 1, by omega⟩
          refine lv_iload hx hb dX1_readLevel_26 (lv_at hl 4 rfl) ?_
          refine lv_iload_n hx hb dX1_readLevel_28 rfl (lv_at hl 3 rfl) ?_
          refine lv_icmp_ge (tgt := 107) hx hb dX1_readLevel_29 (by decide) (fun c29_10 => ?_) (fun c29_10 => ?_)
          · have c29_10 : 60 ≤ i := (nI_leI (a := 60) (b := i) (by omega) (by omega)).mp c29_10
            exact absurd c29_10 (by omega)
          · have c29_10 : ¬ (60 ≤ i) := fun h9 => c29_10 ((nI_leI (a := 60) (b := i) (by omega) (by omega)).mpr h9)
            refine lv_aload_n hx hb dX1_readLevel_32 rfl (lv_at hl 0 rfl) ?_
            refine va_get (ci := 1) (v := .int (nI pv)) (C := RX1) (T := TX1) (N := 5) hx hb hts hin1 hown hK hP 0 rfl rfl 4 (by decide) (hts (.fieldLink RX1 32 "UpAllRound$Reader" "place" "I") (List.mem_of_getElem? (i := 1) rfl)) (fun _ h9 => h9) rfl dX1_readLevel_33 ?_
            refine lv_aload_n hx hb dX1_readLevel_36 rfl (lv_at hl 0 rfl) ?_
            refine va_get (ci := 1) (v := .int (nI L)) (C := RX1) (T := TX1) (N := 5) hx hb hts hin1 hown hK hP 0 rfl rfl 2 (by decide) (hts (.fieldLink RX1 22 "UpAllRound$Reader" "length" "I") (List.mem_of_getElem? (i := 2) rfl)) (fun _ h9 => h9) rfl dX1_readLevel_37 ?_
            refine lv_icmp_ge (tgt := 107) hx hb dX1_readLevel_40 (by decide) (fun c40_11 => ?_) (fun c40_11 => ?_)
            · have c40_11 : L ≤ pv := (nI_leI (a := L) (b := pv) (by omega) (by omega)).mp c40_11
              refine lv_iconst (v := nI 1) hx hb dX1_readLevel_107 (by decide) ?_
              exact hret hP hD hS dX1_readLevel_108 rfl (by obtain ⟨e1, e2, e3⟩ := zLe (f := f1) hz (by omega); subst e1; subst e2; subst e3; exact ⟨_, _, by omega, fun _ => ⟨rfl, rfl⟩, (bI_t rfl).symm, rfl⟩)
            · have c40_11 : ¬ (L ≤ pv) := fun h9 => c40_11 ((nI_leI (a := L) (b := pv) (by omega) (by omega)).mpr h9)
              refine lv_aload_n hx hb dX1_readLevel_43 rfl (lv_at hl 0 rfl) ?_
              refine va_get (ci := 1) (v := .ref ht) (C := RX1) (T := TX1) (N := 5) hx hb hts hin1 hown hK hP 0 rfl rfl 1 (by decide) (hts (.fieldLink RX1 18 "UpAllRound$Reader" "tape" "[I") (List.mem_of_getElem? (i := 3) rfl)) (fun _ h9 => h9) rfl dX1_readLevel_44 ?_
              refine lv_aload_n hx hb dX1_readLevel_47 rfl (lv_at hl 0 rfl) ?_
              refine va_get (ci := 1) (v := .int (nI pv)) (C := RX1) (T := TX1) (N := 5) hx hb hts hin1 hown hK hP 0 rfl rfl 4 (by decide) (hts (.fieldLink RX1 32 "UpAllRound$Reader" "place" "I") (List.mem_of_getElem? (i := 1) rfl)) (fun _ h9 => h9) rfl dX1_readLevel_48 ?_
              refine zald (t := pv) hx hb hK hP 3 rfl (by omega) (by decide) dX1_readLevel_51 ?_
              refine zrw (htb pv (by omega)) ?_
              refine zcsE (va_runS (As := [.int (nI (T pv))]) (rest := []) ⟨hx, hb, hml, hown, hts⟩ (c_X1_levelOf l D cI cJ (T pv) (hT pv (by omega)) H.size) (va_cwS 1 hts gX1_readLevel_X1_levelOf rfl rfl rfl (by decide +kernel) ⟨Nat.le_of_ble_eq_true rfl, Nat.le_of_ble_eq_true rfl⟩) (zpS hK hN hZ hP hD hS hA [] rfl (by decide)) rfl rfl hl.1 rfl (lv_room (Nat.le_of_ble_eq_true rfl)) dX1_readLevel_52 ⟨Nat.zero_le _, Nat.zero_le _⟩) ?_
              refine lv_iload_n hx hb dX1_readLevel_55 rfl (lv_at hl 1 rfl) ?_
              refine lv_icmp_ne (tgt := 107) hx hb dX1_readLevel_56 (by decide) (fun c56_12 => ?_) (fun c56_12 => ?_)
              · have c56_12 : ¬ (((zlv (T pv))) = 1) := fun h9 => c56_12 ((nI_eq (a := (zlv (T pv))) (b := 1) (by have h91 := zlv_le (T pv); omega) (by have h91 := zlv_le (T pv); omega)).mpr h9)
                refine lv_iconst (v := nI 1) hx hb dX1_readLevel_107 (by decide) ?_
                exact hret hP hD hS dX1_readLevel_108 rfl (by obtain ⟨e1, e2, e3⟩ := zLe (f := f1) hz (by omega); subst e1; subst e2; subst e3; exact ⟨_, _, by omega, fun _ => ⟨rfl, rfl⟩, (bI_t rfl).symm, rfl⟩)
              · have c56_12 : ((zlv (T pv))) = 1 := (nI_eq (a := (zlv (T pv))) (b := 1) (by have h91 := zlv_le (T pv); omega) (by have h91 := zlv_le (T pv); omega)).mp c56_12
                refine lv_aload_n hx hb dX1_readLevel_59 rfl (lv_at hl 0 rfl) ?_
                refine va_get (ci := 1) (v := .ref ht) (C := RX1) (T := TX1) (N := 5) hx hb hts hin1 hown hK hP 0 rfl rfl 1 (by decide) (hts (.fieldLink RX1 18 "UpAllRound$Reader" "tape" "[I") (List.mem_of_getElem? (i := 3) rfl)) (fun _ h9 => h9) rfl dX1_readLevel_60 ?_
                refine lv_aload_n hx hb dX1_readLevel_63 rfl (lv_at hl 0 rfl) ?_
                refine va_get (ci := 1) (v := .int (nI pv)) (C := RX1) (T := TX1) (N := 5) hx hb hts hin1 hown hK hP 0 rfl rfl 4 (by decide) (hts (.fieldLink RX1 32 "UpAllRound$Reader" "place" "I") (List.mem_of_getElem? (i := 1) rfl)) (fun _ h9 => h9) rfl dX1_readLevel_64 ?_
                refine zald (t := pv) hx hb hK hP 3 rfl (by omega) (by decide) dX1_readLevel_67 ?_
                refine zrw (htb pv (by omega)) ?_
                refine lv_istore (lv' := [(5, .int (nI (T pv))), (0, .ref h), (1, .int (nI 1)), (2, .int (nI 2)), (3, .int (nI 60)), (4, .int (nI i))]) hx hb dX1_readLevel_68 hl (by decide) rfl (fun ls hl => ?_)
                refine lv_aload_n hx hb dX1_readLevel_70 rfl (lv_at hl 1 rfl) ?_
                refine lv_dup hx hb dX1_readLevel_71 rfl ?_
                refine va_get (ci := 1) (v := .int (nI pv)) (C := RX1) (T := TX1) (N := 5) hx hb hts hin1 hown hK hP 0 rfl rfl 4 (by decide) (hts (.fieldLink RX1 32 "UpAllRound$Reader" "place" "I") (List.mem_of_getElem? (i := 1) rfl)) (fun _ h9 => h9) rfl dX1_readLevel_72 ?_
                refine lv_iconst (v := nI 1) hx hb dX1_readLevel_75 (by decide) ?_
                refine lv_iadd hx hb dX1_readLevel_76 ?_
                refine zrw (nI_add _ _) ?_
                refine va_put (ci := 1) (v := .int (nI (pv + 1))) (ty := .int) (C := RX1) (T := TX1) (N := 5) hx hb hts hin1 tyX1 tyX1_ok nmX1 hown hK hP hD hS 0 rfl rfl 4 (by decide) (hts (.fieldLink RX1 32 "UpAllRound$Reader" "place" "I") (List.mem_of_getElem? (i := 1) rfl)) (fun _ h9 => h9) rfl (by decide +kernel) rfl rfl (Nat.le_of_ble_eq_true rfl) dX1_readLevel_77 (fun H locs hP hD hS => ?_)
                have hP : va_P D vwCl [(h, .inr (1, [.ref hl9, .ref ht, .int (nI L), .ref (ad u), .int (nI (pv + 1))])), (hl9, .inr (0, [.ref hc, .int (nI ((c + ta.length))), .ref hst])), (hc, .inl (cI, 60, .inl (zapp C c ta))), (ht, .inl (cI, 60, .inl TB))] H := hP
                have hD : va_D AA [(h, .inr (1, [.ref hl9, .ref ht, .int (nI L), .ref (ad u), .int (nI (pv + 1))])), (hl9, .inr (0, [.ref hc, .int (nI ((c + ta.length))), .ref hst])), (hc, .inl (cI, 60, .inl (zapp C c ta))), (ht, .inl (cI, 60, .inl TB))] := hD
                obtain ⟨b2, q2, t2, hR2⟩ : ∃ (b0 : Bool) (q0 : Nat) (t0 : zTks), zLS T L (zQ T L u 3) 3 (pv + 1) = (b0, q0, t0) := ⟨_, _, _, rfl⟩
                have hg2 := (zLS_gd (T := T) (zQ_gd (T := T) (L := L) (u := u) 3) 3) (pv + 1) (by omega)
                rw [hR2] at hg2
                obtain ⟨hga2, hgb2, hgc2⟩ : (pv + 1) ≤ q2 ∧ q2 ≤ L ∧ (b2 = true → (pv + 1) < q2 ∧ t2.length ≤ q2 - (pv + 1) ∧ zw1 t2) := hg2
                refine lv_aload_n hx hb dX1_readLevel_80 rfl (lv_at hl 1 rfl) ?_
                refine lv_iload_n hx hb dX1_readLevel_81 rfl (lv_at hl 2 rfl) ?_
                refine lv_iload_n hx hb dX1_readLevel_82 rfl (lv_at hl 3 rfl) ?_
                refine zci (wr := []) (va_runV (As := [.int (nI 1), .int (nI 2)]) (rest := []) ⟨hx, hb, hml, hown, hts⟩ (c_X1_readPart_1_2 l D cI cJ ad bd h hl9 ht hc hst L u T TB (pv + 1) ((c + ta.length)) (zapp C c ta) b2 q2 t2 (by first | rfl | assumption | omega) (by first | rfl | assumption | omega) (by first | rfl | assumption | omega) (by first | rfl | assumption | omega) (by omega) (by omega) hR2 H.size) (cwV 2 hts gX1_readLevel_X1_readPart rfl rfl rfl (by decide +kernel) ⟨Nat.le_of_ble_eq_true rfl, Nat.le_of_ble_eq_true rfl⟩) (zpVs hG hK hN hZ hP hD hS hA [0, 1, 2, 3] rfl (by decide) 0 rfl rfl rfl) rfl rfl hl.1 rfl (lv_room (Nat.le_of_ble_eq_true rfl)) dX1_readLevel_83 ⟨Nat.zero_le _, Nat.zero_le _⟩) hP hD hS hA [0, 1, 2, 3] [] rfl rfl (by decide) (by decide) (fun r_15 w_14 H locs h_13 hP hD hS => ?_)
                obtain ⟨c9_16, C9_17, hq9_18, hx9_19, rfl, rfl⟩ := h_13
                have hP : va_P D vwCl [(h, .inr (1, [.ref hl9, .ref ht, .int (nI L), .ref (ad u), .int (nI q2)])), (hl9, .inr (0, [.ref hc, .int (nI c9_16), .ref hst])), (hc, .inl (cI, 60, .inl C9_17)), (ht, .inl (cI, 60, .inl TB))] H := hP
                have hD : va_D AA [(h, .inr (1, [.ref hl9, .ref ht, .int (nI L), .ref (ad u), .int (nI q2)])), (hl9, .inr (0, [.ref hc, .int (nI c9_16), .ref hst])), (hc, .inl (cI, 60, .inl C9_17)), (ht, .inl (cI, 60, .inl TB))] := hD
                refine lv_if_ne (tgt := 91) hx hb dX1_readLevel_86 (by decide) (fun c86_20 => ?_) (fun c86_20 => ?_)
                · have c86_20 := bI_n0.mp c86_20
                  obtain ⟨hgd2, hge2, hgf2⟩ := hgc2 c86_20
                  obtain ⟨he2, hE2⟩ := hx9_19 c86_20
                  subst he2; subst hE2
                  refine lv_aload_n hx hb dX1_readLevel_91 rfl (lv_at hl 1 rfl) ?_
                  refine va_get (ci := 1) (v := .ref hl9) (C := RX1) (T := TX1) (N := 5) hx hb hts hin1 hown hK hP 0 rfl rfl 0 (by decide) (hts (.fieldLink RX1 12 "UpAllRound$Reader" "law" "LUpAllRound$Law;") (List.mem_of_getElem? (i := 4) rfl)) (fun _ h9 => h9) rfl dX1_readLevel_92 ?_
                  refine lv_iload hx hb dX1_readLevel_95 (lv_at hl 0 rfl) ?_
                  refine lv_ineg hx hb dX1_readLevel_97 ?_
                  refine zcv (wr := [(h, .inr (1, [.ref hl9, .ref ht, .int (nI L), .ref (ad u), .int (nI q2)])), (ht, .inl (cI, 60, .inl TB))]) (va_runVN (As := [.int (-(nI (T pv)))]) (rest := []) ⟨hx, hb, hml, hown, hts⟩ (c_X0_add l D cI cJ hl9 hc hst ((c + ta.length + t2.length)) (zapp (zapp C c ta) (c + ta.length) t2) (-(nI (T pv))) (by omega) H.size) ⟨va_cnB 1 hts gX1_readLevel_X0_add_n61 rfl rfl rfl (hN (.methodLinkNest "UpAllRound$Reader" 61 yX0_add "UpAllRound") (List.mem_of_getElem? (i := 38) rfl)) (hts (.initialized RX0) (List.mem_of_getElem? (i := 13) rfl)) (by decide +kernel) ⟨Nat.le_of_ble_eq_true rfl, Nat.le_of_ble_eq_true rfl⟩, (hts (.instanceMethod yX0_add) (List.mem_of_getElem? (i := 12) rfl)), (hts (.selects RX0 yX0_add yX0_add) (List.mem_of_getElem? (i := 14) rfl))⟩ (zpV hK hN hZ hP hD hS hA [1, 2] rfl (by decide) 1 rfl rfl rfl) rfl rfl hl.1 rfl (lv_room (Nat.le_of_ble_eq_true rfl)) dX1_readLevel_98 ⟨Nat.zero_le _, Nat.zero_le _⟩) hP hD hS hA [1, 2] [0, 3] rfl rfl (by decide) (by decide) (fun w_22 H locs h_21 hP hD hS => ?_)
                  obtain rfl := h_21
                  have hP : va_P D vwCl [(h, .inr (1, [.ref hl9, .ref ht, .int (nI L), .ref (ad u), .int (nI q2)])), (ht, .inl (cI, 60, .inl TB)), (hl9, .inr (0, [.ref hc, .int (nI (((c + ta.length + t2.length)) + 1)), .ref hst])), (hc, .inl (cI, 60, .inl (upd (zapp (zapp C c ta) (c + ta.length) t2) ((c + ta.length + t2.length)) (-(nI (T pv))))))] H := hP
                  have hD : va_D AA [(h, .inr (1, [.ref hl9, .ref ht, .int (nI L), .ref (ad u), .int (nI q2)])), (ht, .inl (cI, 60, .inl TB)), (hl9, .inr (0, [.ref hc, .int (nI (((c + ta.length + t2.length)) + 1)), .ref hst])), (hc, .inl (cI, 60, .inl (upd (zapp (zapp C c ta) (c + ta.length) t2) ((c + ta.length + t2.length)) (-(nI (T pv))))))] := hD
                  refine lv_iinc (v := nI (i + 1)) (lv' := [(4, .int (nI (i + 1))), (5, .int (nI (T pv))), (0, .ref h), (1, .int (nI 1)), (2, .int (nI 2)), (3, .int (nI 60))]) hx hb dX1_readLevel_101 hl (k := 5) rfl (nI_add _ _) (by decide) rfl (fun ls hl => ?_)
                  refine lv_goto (tgt := 26) hx hb dX1_readLevel_104 (by decide) ?_
                  rw [show -(nI (T pv)) = zcode (3, T pv) from rfl, zapp1, zlen1 (t := (3, T pv))] at hP hD
                  exact ih_26   f1 q2 ((ta ++ (t2 ++ [(3, T pv)]))) ((i + 1)) (by omega) (zLt (by decide) hz ⟨by omega, by omega⟩ hR2 (by assumption)) (by omega) (by omega) (by rw [← zlen1]; omega) (by omega) ls (lv_sub hl [2, 3, 4, 5, 0] rfl) H locs (hP.sub [0, 2, 3, 1] rfl) (hD.sub [0, 2, 3, 1] (by decide) rfl) hS
                · have c86_20 := bI_0.mp c86_20
                  refine lv_iconst (v := nI 0) hx hb dX1_readLevel_89 (by decide) ?_
                  exact hret hP hD hS dX1_readLevel_90 rfl (by obtain ⟨e1, e2⟩ := zLf hz ⟨by omega, by omega⟩ hR2 (by assumption); subst e1; subst e2; exact ⟨_, _, hq9_18, fun h9 => (by cases h9), (bI_f (by decide)).symm, rfl⟩)
      exact L_26 62  61 q1 t1 0 (by omega) hz (by omega) (by omega) (by omega) (by omega) ls (lv_sub hl [2, 3, 4, 1, 0] rfl) _ _ hP hD hS
    · have c13_9 : 1 = 2 := (nI_eq (a := 1) (b := 2) (by omega) (by omega)).mp c13_9
      exact absurd c13_9 (by omega)
  · have c6_8 := bI_0.mp c6_8
    refine lv_iconst (v := nI 0) hx hb dX1_readLevel_9 (by decide) ?_
    exact hret hP hD hS dX1_readLevel_10 rfl (by obtain ⟨e1, e2⟩ := zLv_ff hR hR1 (by assumption); subst e1; subst e2; exact ⟨_, _, hq9_6, fun h9 => (by cases h9), (bI_f (by decide)).symm, rfl⟩)
set_option maxHeartbeats 4000000 in
set_option maxRecDepth 100000 in
theorem c_X1_readPart_0_2 (l : Launch) (D : va_G) (cI cJ : ClassId) (ad : Nat → Nat) (bd : Nat → Nat) (h : Nat) (hl9 : Nat) (ht : Nat) (hc : Nat) (hst : Nat) (L : Nat) (u : Nat) (T : Nat → Nat) (TB : Nat → Int32) (p : Nat) (c : Nat) (C : Nat → Int32) (b : Bool) (q : Nat) (tl : zTks) (hL : L ≤ 60) (hu1 : u ≤ 1) (hT : ∀ i, i < L → T i < 256) (htb : ∀ i, i < L → TB i = nI (T i)) (hp : p ≤ L) (hcp : c ≤ p) (hR : zLS T L (zQ T L u 3) 4 p = (b, q, tl)) : zTi ad bd l yX1_readPart wsX1_readPart ({ frames := 46, cells := 0, slots := 0, locals := 1076 } : Room) D [(cI, .int), (cJ, .array .int)] [.ref h, .int (nI 0), .int (nI 2)] [(h, .inr (1, [.ref hl9, .ref ht, .int (nI L), .ref (ad u), .int (nI p)])), (hl9, .inr (0, [.ref hc, .int (nI c), .ref hst])), (hc, .inl (cI, 60, .inl C)), (ht, .inl (cI, 60, .inl TB))] (fun r w => ∃ (c9 : Nat) (C9 : Nat → Int32), c9 ≤ q ∧ (b = true → c9 = c + tl.length ∧ C9 = zapp C c tl) ∧ r = bI (b = true) ∧ w = [(h, .inr (1, [.ref hl9, .ref ht, .int (nI L), .ref (ad u), .int (nI q)])), (hl9, .inr (0, [.ref hc, .int (nI c9), .ref hst])), (hc, .inl (cI, 60, .inl C9)), (ht, .inl (cI, 60, .inl TB))]) := by
  refine zTi.start (cc := cX1_readPart) (maxL := 3) (rt := .boolean) (by first | decide | decide +kernel) rfl (Nat.le_of_ble_eq_true rfl) ?_
  intro pg ev s mt args below meth cd ls AA QQ ⟨hx, hb, hml, hr, hlocks, hown, hts, hK, hN, hZ, hP, hD, hA, hS, hl⟩ hG hret
  have hown : s.vm.findClass RX1 = some mt.cls := hown
  have hl : lv_has ls 3 [(0, .ref h), (1, .int (nI 0)), (2, .int (nI 2))] := hl
  have hin0 : ∀ w ∈ wsX00, w ∈ wsX1_readPart := fun w h => List.mem_cons_of_mem _ (List.mem_append_right _ (h))
  have hin1 : ∀ w ∈ wsX10, w ∈ wsX1_readPart := fun w h => List.mem_cons_of_mem _ (List.mem_append_left _ (List.mem_append_right _ (h)))
  refine lv_iload_n hx hb dX1_readPart_0 rfl (lv_at hl 1 rfl) ?_
  refine lv_iconst (v := nI 1) hx hb dX1_readPart_1 (by decide) ?_
  refine lv_iadd hx hb dX1_readPart_2 ?_
  refine zrw (nI_add _ _) ?_
  refine lv_iconst (v := nI 5) hx hb dX1_readPart_3 (by decide) ?_
  refine lv_icmp_ge (tgt := 18) hx hb dX1_readPart_4 (by decide) (fun c4_1 => ?_) (fun c4_1 => ?_)
  · have c4_1 : 5 ≤ 1 := (nI_leI (a := 5) (b := 1) (by omega) (by omega)).mp c4_1
    exact absurd c4_1 (by omega)
  · have c4_1 : ¬ (5 ≤ 1) := fun h9 => c4_1 ((nI_leI (a := 5) (b := 1) (by omega) (by omega)).mpr h9)
    refine lv_aload_n hx hb dX1_readPart_7 rfl (lv_at hl 0 rfl) ?_
    refine lv_iload_n hx hb dX1_readPart_8 rfl (lv_at hl 1 rfl) ?_
    refine lv_iconst (v := nI 1) hx hb dX1_readPart_9 (by decide) ?_
    refine lv_iadd hx hb dX1_readPart_10 ?_
    refine zrw (nI_add _ _) ?_
    refine lv_iload_n hx hb dX1_readPart_11 rfl (lv_at hl 2 rfl) ?_
    refine zci (wr := []) (va_runV (As := [.int (nI 1), .int (nI 2)]) (rest := []) ⟨hx, hb, hml, hown, hts⟩ (c_X1_readLevel_1_2 l D cI cJ ad bd h hl9 ht hc hst L u T TB p c C b q tl (by first | rfl | assumption | omega) (by first | rfl | assumption | omega) (by first | rfl | assumption | omega) (by first | rfl | assumption | omega) (by first | rfl | assumption | omega) (by first | rfl | assumption | omega) hR s.heap.size) (cwV 2 hts gX1_readPart_X1_readLevel rfl rfl rfl (by decide +kernel) ⟨Nat.le_of_ble_eq_true rfl, Nat.le_of_ble_eq_true rfl⟩) (zpVs hG hK hN hZ hP hD hS hA [0, 1, 2, 3] rfl (by decide) 0 rfl rfl rfl) rfl rfl hl.1 rfl (lv_room (Nat.le_of_ble_eq_true rfl)) dX1_readPart_12 ⟨Nat.zero_le _, Nat.zero_le _⟩) hP hD hS hA [0, 1, 2, 3] [] rfl rfl (by decide) (by decide) (fun r_4 w_3 H locs h_2 hP hD hS => ?_)
    obtain ⟨c9_5, C9_6, hq9_7, hx9_8, rfl, rfl⟩ := h_2
    have hP : va_P D vwCl [(h, .inr (1, [.ref hl9, .ref ht, .int (nI L), .ref (ad u), .int (nI q)])), (hl9, .inr (0, [.ref hc, .int (nI c9_5), .ref hst])), (hc, .inl (cI, 60, .inl C9_6)), (ht, .inl (cI, 60, .inl TB))] H := hP
    have hD : va_D AA [(h, .inr (1, [.ref hl9, .ref ht, .int (nI L), .ref (ad u), .int (nI q)])), (hl9, .inr (0, [.ref hc, .int (nI c9_5), .ref hst])), (hc, .inl (cI, 60, .inl C9_6)), (ht, .inl (cI, 60, .inl TB))] := hD
    refine lv_goto (tgt := 23) hx hb dX1_readPart_15 (by decide) ?_
    exact hret hP hD hS dX1_readPart_23 nar_bI (by exact ⟨_, _, hq9_7, hx9_8, rfl, rfl⟩)
set_option maxHeartbeats 4000000 in
set_option maxRecDepth 100000 in
theorem c_X1_readLevel_0_2 (l : Launch) (D : va_G) (cI cJ : ClassId) (ad : Nat → Nat) (bd : Nat → Nat) (h : Nat) (hl9 : Nat) (ht : Nat) (hc : Nat) (hst : Nat) (L : Nat) (u : Nat) (T : Nat → Nat) (TB : Nat → Int32) (p : Nat) (c : Nat) (C : Nat → Int32) (b : Bool) (q : Nat) (tl : zTks) (hL : L ≤ 60) (hu1 : u ≤ 1) (hT : ∀ i, i < L → T i < 256) (htb : ∀ i, i < L → TB i = nI (T i)) (hp : p ≤ L) (hcp : c ≤ p) (hR : zLS T L (zQ T L u 3) 5 p = (b, q, tl)) : zTi ad bd l yX1_readLevel wsX1_readLevel ({ frames := 47, cells := 0, slots := 0, locals := 1098 } : Room) D [(cI, .int), (cJ, .array .int)] [.ref h, .int (nI 0), .int (nI 2)] [(h, .inr (1, [.ref hl9, .ref ht, .int (nI L), .ref (ad u), .int (nI p)])), (hl9, .inr (0, [.ref hc, .int (nI c), .ref hst])), (hc, .inl (cI, 60, .inl C)), (ht, .inl (cI, 60, .inl TB))] (fun r w => ∃ (c9 : Nat) (C9 : Nat → Int32), c9 ≤ q ∧ (b = true → c9 = c + tl.length ∧ C9 = zapp C c tl) ∧ r = bI (b = true) ∧ w = [(h, .inr (1, [.ref hl9, .ref ht, .int (nI L), .ref (ad u), .int (nI q)])), (hl9, .inr (0, [.ref hc, .int (nI c9), .ref hst])), (hc, .inl (cI, 60, .inl C9)), (ht, .inl (cI, 60, .inl TB))]) := by
  refine zTi.start (cc := cX1_readLevel) (maxL := 6) (rt := .boolean) (by first | decide | decide +kernel) rfl (Nat.le_of_ble_eq_true rfl) ?_
  intro pg ev s mt args below meth cd ls AA QQ ⟨hx, hb, hml, hr, hlocks, hown, hts, hK, hN, hZ, hP, hD, hA, hS, hl⟩ hG hret
  have hown : s.vm.findClass RX1 = some mt.cls := hown
  have hl : lv_has ls 6 [(0, .ref h), (1, .int (nI 0)), (2, .int (nI 2))] := hl
  have hin0 : ∀ w ∈ wsX00, w ∈ wsX1_readLevel := fun w h => List.mem_cons_of_mem _ (List.mem_append_right _ (h))
  have hin1 : ∀ w ∈ wsX10, w ∈ wsX1_readLevel := fun w h => List.mem_cons_of_mem _ (List.mem_append_left _ (List.mem_append_right _ (h)))
  have hR : zLv T L 0 (zLS T L (zQ T L u 3) 4) p = (b, q, tl) := hR
  obtain ⟨b1, q1, t1, hR1⟩ : ∃ (b0 : Bool) (q0 : Nat) (t0 : zTks), zLS T L (zQ T L u 3) 4 p = (b0, q0, t0) := ⟨_, _, _, rfl⟩
  have hg1 := (zLS_gd (T := T) (zQ_gd (T := T) (L := L) (u := u) 3) 4) p (by omega)
  rw [hR1] at hg1
  obtain ⟨hga1, hgb1, hgc1⟩ : p ≤ q1 ∧ q1 ≤ L ∧ (b1 = true → p < q1 ∧ t1.length ≤ q1 - p ∧ zw1 t1) := hg1
  refine lv_aload_n hx hb dX1_readLevel_0 rfl (lv_at hl 0 rfl) ?_
  refine lv_iload_n hx hb dX1_readLevel_1 rfl (lv_at hl 1 rfl) ?_
  refine lv_iload_n hx hb dX1_readLevel_2 rfl (lv_at hl 2 rfl) ?_
  refine zci (wr := []) (va_runV (As := [.int (nI 0), .int (nI 2)]) (rest := []) ⟨hx, hb, hml, hown, hts⟩ (c_X1_readPart_0_2 l D cI cJ ad bd h hl9 ht hc hst L u T TB p c C b1 q1 t1 (by first | rfl | assumption | omega) (by first | rfl | assumption | omega) (by first | rfl | assumption | omega) (by first | rfl | assumption | omega) (by first | rfl | assumption | omega) (by first | rfl | assumption | omega) hR1 s.heap.size) (cwV 2 hts gX1_readLevel_X1_readPart rfl rfl rfl (by decide +kernel) ⟨Nat.le_of_ble_eq_true rfl, Nat.le_of_ble_eq_true rfl⟩) (zpVs hG hK hN hZ hP hD hS hA [0, 1, 2, 3] rfl (by decide) 0 rfl rfl rfl) rfl rfl hl.1 rfl (lv_room (Nat.le_of_ble_eq_true rfl)) dX1_readLevel_3 ⟨Nat.zero_le _, Nat.zero_le _⟩) hP hD hS hA [0, 1, 2, 3] [] rfl rfl (by decide) (by decide) (fun r_3 w_2 H locs h_1 hP hD hS => ?_)
  obtain ⟨c9_4, C9_5, hq9_6, hx9_7, rfl, rfl⟩ := h_1
  have hP : va_P D vwCl [(h, .inr (1, [.ref hl9, .ref ht, .int (nI L), .ref (ad u), .int (nI q1)])), (hl9, .inr (0, [.ref hc, .int (nI c9_4), .ref hst])), (hc, .inl (cI, 60, .inl C9_5)), (ht, .inl (cI, 60, .inl TB))] H := hP
  have hD : va_D AA [(h, .inr (1, [.ref hl9, .ref ht, .int (nI L), .ref (ad u), .int (nI q1)])), (hl9, .inr (0, [.ref hc, .int (nI c9_4), .ref hst])), (hc, .inl (cI, 60, .inl C9_5)), (ht, .inl (cI, 60, .inl TB))] := hD
  refine lv_if_ne (tgt := 11) hx hb dX1_readLevel_6 (by decide) (fun c6_8 => ?_) (fun c6_8 => ?_)
  · have c6_8 := bI_n0.mp c6_8
    obtain ⟨hgd1, hge1, hgf1⟩ := hgc1 c6_8
    obtain ⟨he1, hE1⟩ := hx9_7 c6_8
    subst he1; subst hE1
    have hz := zLv_tt hR hR1 c6_8
    refine lv_iload_n hx hb dX1_readLevel_11 rfl (lv_at hl 1 rfl) ?_
    refine lv_iconst (v := nI 2) hx hb dX1_readLevel_12 (by decide) ?_
    refine lv_icmp_ne (tgt := 20) hx hb dX1_readLevel_13 (by decide) (fun c13_9 => ?_) (fun c13_9 => ?_)
    · have c13_9 : ¬ (0 = 2) := fun h9 => c13_9 ((nI_eq (a := 0) (b := 2) (by omega) (by omega)).mpr h9)
      refine lv_bipush (v := nI 60) hx hb dX1_readLevel_20 (by decide) ?_
      refine lv_istore_n (lv' := [(3, .int (nI 60)), (0, .ref h), (1, .int (nI 0)), (2, .int (nI 2))]) hx hb dX1_readLevel_22 rfl hl (by decide) rfl (fun ls hl => ?_)
      refine lv_iconst (v := nI 0) hx hb dX1_readLevel_23 (by decide) ?_
      refine lv_istore (lv' := [(4, .int (nI 0)), (3, .int (nI 60)), (0, .ref h), (1, .int (nI 0)), (2, .int (nI 2))]) hx hb dX1_readLevel_24 hl (by decide) rfl (fun ls hl => ?_)
      have L_26 : ∀ (fu : Nat) (f : Nat) (pv : Nat) (ta : zTks) (i : Nat) (hn : f < fu) (hz : zct ta (zLp T L 0 (zLS T L (zQ T L u 3) 4) f pv) = (b, q, tl)) (hf : L - pv < f) (hpv : pv ≤ L) (hca : c + ta.length ≤ pv) (hi1 : i + 1 ≤ pv), ∀ (ls : Array Slot), lv_has ls 6 [(0, .ref h), (1, .int (nI 0)), (2, .int (nI 2)), (3, .int (nI 60)), (4, .int (nI i))] → ∀ (H : Heap) (locs : List Loc), va_P D vwCl [(h, .inr (1, [.ref hl9, .ref ht, .int (nI L), .ref (ad u), .int (nI pv)])), (hl9, .inr (0, [.ref hc, .int (nI ((c + ta.length))), .ref hst])), (hc, .inl (cI, 60, .inl (zapp C c ta))), (ht, .inl (cI, 60, .inl TB))] H → va_D AA [(h, .inr (1, [.ref hl9, .ref ht, .int (nI L), .ref (ad u), .int (nI pv)])), (hl9, .inr (0, [.ref hc, .int (nI ((c + ta.length))), .ref hst])), (hc, .inl (cI, 60, .inl (zapp C c ta))), (ht, .inl (cI, 60, .inl TB))] → va_S AA s.heap H locs → W pg l ev ({ frames := 47, cells := 0, slots := 0, locals := 1098 } : Room) s mt args below meth cd H locs 0 0 QQ (F0 mt 26 ls []) := by
        intro fu
        induction fu with
        | zero =>
          intro  f pv ta i  hn
          exact absurd hn (by omega)
        | succ fu ih_26 =>
          intro  f pv ta i  hn hz hf hpv hca hi1 ls hl H locs hP hD hS
          obtain ⟨f1, rfl⟩ : ∃ f1, f = f1 + 1 := ⟨f - 1, by omega⟩
          refine lv_iload hx hb dX1_readLevel_26 (lv_at hl 4 rfl) ?_
          refine lv_iload_n hx hb dX1_readLevel_28 rfl (lv_at hl 3 rfl) ?_
          refine lv_icmp_ge (tgt := 107) hx hb dX1_readLevel_29 (by decide) (fun c29_10 => ?_) (fun c29_10 => ?_)
          · have c29_10 : 60 ≤ i := (nI_leI (a := 60) (b := i) (by omega) (by omega)).mp c29_10
            exact absurd c29_10 (by omega)
          · have c29_10 : ¬ (60 ≤ i) := fun h9 => c29_10 ((nI_leI (a := 60) (b := i) (by omega) (by omega)).mpr h9)
            refine lv_aload_n hx hb dX1_readLevel_32 rfl (lv_at hl 0 rfl) ?_
            refine va_get (ci := 1) (v := .int (nI pv)) (C := RX1) (T := TX1) (N := 5) hx hb hts hin1 hown hK hP 0 rfl rfl 4 (by decide) (hts (.fieldLink RX1 32 "UpAllRound$Reader" "place" "I") (List.mem_of_getElem? (i := 1) rfl)) (fun _ h9 => h9) rfl dX1_readLevel_33 ?_
            refine lv_aload_n hx hb dX1_readLevel_36 rfl (lv_at hl 0 rfl) ?_
            refine va_get (ci := 1) (v := .int (nI L)) (C := RX1) (T := TX1) (N := 5) hx hb hts hin1 hown hK hP 0 rfl rfl 2 (by decide) (hts (.fieldLink RX1 22 "UpAllRound$Reader" "length" "I") (List.mem_of_getElem? (i := 2) rfl)) (fun _ h9 => h9) rfl dX1_readLevel_37 ?_
            refine lv_icmp_ge (tgt := 107) hx hb dX1_readLevel_40 (by decide) (fun c40_11 => ?_) (fun c40_11 => ?_)
            · have c40_11 : L ≤ pv := (nI_leI (a := L) (b := pv) (by omega) (by omega)).mp c40_11
              refine lv_iconst (v := nI 1) hx hb dX1_readLevel_107 (by decide) ?_
              exact hret hP hD hS dX1_readLevel_108 rfl (by obtain ⟨e1, e2, e3⟩ := zLe (f := f1) hz (by omega); subst e1; subst e2; subst e3; exact ⟨_, _, by omega, fun _ => ⟨rfl, rfl⟩, (bI_t rfl).symm, rfl⟩)
            · have c40_11 : ¬ (L ≤ pv) := fun h9 => c40_11 ((nI_leI (a := L) (b := pv) (by omega) (by omega)).mpr h9)
              refine lv_aload_n hx hb dX1_readLevel_43 rfl (lv_at hl 0 rfl) ?_
              refine va_get (ci := 1) (v := .ref ht) (C := RX1) (T := TX1) (N := 5) hx hb hts hin1 hown hK hP 0 rfl rfl 1 (by decide) (hts (.fieldLink RX1 18 "UpAllRound$Reader" "tape" "[I") (List.mem_of_getElem? (i := 3) rfl)) (fun _ h9 => h9) rfl dX1_readLevel_44 ?_
              refine lv_aload_n hx hb dX1_readLevel_47 rfl (lv_at hl 0 rfl) ?_
              refine va_get (ci := 1) (v := .int (nI pv)) (C := RX1) (T := TX1) (N := 5) hx hb hts hin1 hown hK hP 0 rfl rfl 4 (by decide) (hts (.fieldLink RX1 32 "UpAllRound$Reader" "place" "I") (List.mem_of_getElem? (i := 1) rfl)) (fun _ h9 => h9) rfl dX1_readLevel_48 ?_
              refine zald (t := pv) hx hb hK hP 3 rfl (by omega) (by decide) dX1_readLevel_51 ?_
              refine zrw (htb pv (by omega)) ?_
              refine zcsE (va_runS (As := [.int (nI (T pv))]) (rest := []) ⟨hx, hb, hml, hown, hts⟩ (c_X1_levelOf l D cI cJ (T pv) (hT pv (by omega)) H.size) (va_cwS 1 hts gX1_readLevel_X1_levelOf rfl rfl rfl (by decide +kernel) ⟨Nat.le_of_ble_eq_true rfl, Nat.le_of_ble_eq_true rfl⟩) (zpS hK hN hZ hP hD hS hA [] rfl (by decide)) rfl rfl hl.1 rfl (lv_room (Nat.le_of_ble_eq_true rfl)) dX1_readLevel_52 ⟨Nat.zero_le _, Nat.zero_le _⟩) ?_
              refine lv_iload_n hx hb dX1_readLevel_55 rfl (lv_at hl 1 rfl) ?_
              refine lv_icmp_ne (tgt := 107) hx hb dX1_readLevel_56 (by decide) (fun c56_12 => ?_) (fun c56_12 => ?_)
              · have c56_12 : ¬ (((zlv (T pv))) = 0) := fun h9 => c56_12 ((nI_eq (a := (zlv (T pv))) (b := 0) (by have h91 := zlv_le (T pv); omega) (by have h91 := zlv_le (T pv); omega)).mpr h9)
                refine lv_iconst (v := nI 1) hx hb dX1_readLevel_107 (by decide) ?_
                exact hret hP hD hS dX1_readLevel_108 rfl (by obtain ⟨e1, e2, e3⟩ := zLe (f := f1) hz (by omega); subst e1; subst e2; subst e3; exact ⟨_, _, by omega, fun _ => ⟨rfl, rfl⟩, (bI_t rfl).symm, rfl⟩)
              · have c56_12 : ((zlv (T pv))) = 0 := (nI_eq (a := (zlv (T pv))) (b := 0) (by have h91 := zlv_le (T pv); omega) (by have h91 := zlv_le (T pv); omega)).mp c56_12
                refine lv_aload_n hx hb dX1_readLevel_59 rfl (lv_at hl 0 rfl) ?_
                refine va_get (ci := 1) (v := .ref ht) (C := RX1) (T := TX1) (N := 5) hx hb hts hin1 hown hK hP 0 rfl rfl 1 (by decide) (hts (.fieldLink RX1 18 "UpAllRound$Reader" "tape" "[I") (List.mem_of_getElem? (i := 3) rfl)) (fun _ h9 => h9) rfl dX1_readLevel_60 ?_
                refine lv_aload_n hx hb dX1_readLevel_63 rfl (lv_at hl 0 rfl) ?_
                refine va_get (ci := 1) (v := .int (nI pv)) (C := RX1) (T := TX1) (N := 5) hx hb hts hin1 hown hK hP 0 rfl rfl 4 (by decide) (hts (.fieldLink RX1 32 "UpAllRound$Reader" "place" "I") (List.mem_of_getElem? (i := 1) rfl)) (fun _ h9 => h9) rfl dX1_readLevel_64 ?_
                refine zald (t := pv) hx hb hK hP 3 rfl (by omega) (by decide) dX1_readLevel_67 ?_
                refine zrw (htb pv (by omega)) ?_
                refine lv_istore (lv' := [(5, .int (nI (T pv))), (0, .ref h), (1, .int (nI 0)), (2, .int (nI 2)), (3, .int (nI 60)), (4, .int (nI i))]) hx hb dX1_readLevel_68 hl (by decide) rfl (fun ls hl => ?_)
                refine lv_aload_n hx hb dX1_readLevel_70 rfl (lv_at hl 1 rfl) ?_
                refine lv_dup hx hb dX1_readLevel_71 rfl ?_
                refine va_get (ci := 1) (v := .int (nI pv)) (C := RX1) (T := TX1) (N := 5) hx hb hts hin1 hown hK hP 0 rfl rfl 4 (by decide) (hts (.fieldLink RX1 32 "UpAllRound$Reader" "place" "I") (List.mem_of_getElem? (i := 1) rfl)) (fun _ h9 => h9) rfl dX1_readLevel_72 ?_
                refine lv_iconst (v := nI 1) hx hb dX1_readLevel_75 (by decide) ?_
                refine lv_iadd hx hb dX1_readLevel_76 ?_
                refine zrw (nI_add _ _) ?_
                refine va_put (ci := 1) (v := .int (nI (pv + 1))) (ty := .int) (C := RX1) (T := TX1) (N := 5) hx hb hts hin1 tyX1 tyX1_ok nmX1 hown hK hP hD hS 0 rfl rfl 4 (by decide) (hts (.fieldLink RX1 32 "UpAllRound$Reader" "place" "I") (List.mem_of_getElem? (i := 1) rfl)) (fun _ h9 => h9) rfl (by decide +kernel) rfl rfl (Nat.le_of_ble_eq_true rfl) dX1_readLevel_77 (fun H locs hP hD hS => ?_)
                have hP : va_P D vwCl [(h, .inr (1, [.ref hl9, .ref ht, .int (nI L), .ref (ad u), .int (nI (pv + 1))])), (hl9, .inr (0, [.ref hc, .int (nI ((c + ta.length))), .ref hst])), (hc, .inl (cI, 60, .inl (zapp C c ta))), (ht, .inl (cI, 60, .inl TB))] H := hP
                have hD : va_D AA [(h, .inr (1, [.ref hl9, .ref ht, .int (nI L), .ref (ad u), .int (nI (pv + 1))])), (hl9, .inr (0, [.ref hc, .int (nI ((c + ta.length))), .ref hst])), (hc, .inl (cI, 60, .inl (zapp C c ta))), (ht, .inl (cI, 60, .inl TB))] := hD
                obtain ⟨b2, q2, t2, hR2⟩ : ∃ (b0 : Bool) (q0 : Nat) (t0 : zTks), zLS T L (zQ T L u 3) 4 (pv + 1) = (b0, q0, t0) := ⟨_, _, _, rfl⟩
                have hg2 := (zLS_gd (T := T) (zQ_gd (T := T) (L := L) (u := u) 3) 4) (pv + 1) (by omega)
                rw [hR2] at hg2
                obtain ⟨hga2, hgb2, hgc2⟩ : (pv + 1) ≤ q2 ∧ q2 ≤ L ∧ (b2 = true → (pv + 1) < q2 ∧ t2.length ≤ q2 - (pv + 1) ∧ zw1 t2) := hg2
                refine lv_aload_n hx hb dX1_readLevel_80 rfl (lv_at hl 1 rfl) ?_
                refine lv_iload_n hx hb dX1_readLevel_81 rfl (lv_at hl 2 rfl) ?_
                refine lv_iload_n hx hb dX1_readLevel_82 rfl (lv_at hl 3 rfl) ?_
                refine zci (wr := []) (va_runV (As := [.int (nI 0), .int (nI 2)]) (rest := []) ⟨hx, hb, hml, hown, hts⟩ (c_X1_readPart_0_2 l D cI cJ ad bd h hl9 ht hc hst L u T TB (pv + 1) ((c + ta.length)) (zapp C c ta) b2 q2 t2 (by first | rfl | assumption | omega) (by first | rfl | assumption | omega) (by first | rfl | assumption | omega) (by first | rfl | assumption | omega) (by omega) (by omega) hR2 H.size) (cwV 2 hts gX1_readLevel_X1_readPart rfl rfl rfl (by decide +kernel) ⟨Nat.le_of_ble_eq_true rfl, Nat.le_of_ble_eq_true rfl⟩) (zpVs hG hK hN hZ hP hD hS hA [0, 1, 2, 3] rfl (by decide) 0 rfl rfl rfl) rfl rfl hl.1 rfl (lv_room (Nat.le_of_ble_eq_true rfl)) dX1_readLevel_83 ⟨Nat.zero_le _, Nat.zero_le _⟩) hP hD hS hA [0, 1, 2, 3] [] rfl rfl (by decide) (by decide) (fun r_15 w_14 H locs h_13 hP hD hS => ?_)
                obtain ⟨c9_16, C9_17, hq9_18, hx9_19, rfl, rfl⟩ := h_13
                have hP : va_P D vwCl [(h, .inr (1, [.ref hl9, .ref ht, .int (nI L), .ref (ad u), .int (nI q2)])), (hl9, .inr (0, [.ref hc, .int (nI c9_16), .ref hst])), (hc, .inl (cI, 60, .inl C9_17)), (ht, .inl (cI, 60, .inl TB))] H := hP
                have hD : va_D AA [(h, .inr (1, [.ref hl9, .ref ht, .int (nI L), .ref (ad u), .int (nI q2)])), (hl9, .inr (0, [.ref hc, .int (nI c9_16), .ref hst])), (hc, .inl (cI, 60, .inl C9_17)), (ht, .inl (cI, 60, .inl TB))] := hD
                refine lv_if_ne (tgt := 91) hx hb dX1_readLevel_86 (by decide) (fun c86_20 => ?_) (fun c86_20 => ?_)
                · have c86_20 := bI_n0.mp c86_20
                  obtain ⟨hgd2, hge2, hgf2⟩ := hgc2 c86_20
                  obtain ⟨he2, hE2⟩ := hx9_19 c86_20
                  subst he2; subst hE2
                  refine lv_aload_n hx hb dX1_readLevel_91 rfl (lv_at hl 1 rfl) ?_
                  refine va_get (ci := 1) (v := .ref hl9) (C := RX1) (T := TX1) (N := 5) hx hb hts hin1 hown hK hP 0 rfl rfl 0 (by decide) (hts (.fieldLink RX1 12 "UpAllRound$Reader" "law" "LUpAllRound$Law;") (List.mem_of_getElem? (i := 4) rfl)) (fun _ h9 => h9) rfl dX1_readLevel_92 ?_
                  refine lv_iload hx hb dX1_readLevel_95 (lv_at hl 0 rfl) ?_
                  refine lv_ineg hx hb dX1_readLevel_97 ?_
                  refine zcv (wr := [(h, .inr (1, [.ref hl9, .ref ht, .int (nI L), .ref (ad u), .int (nI q2)])), (ht, .inl (cI, 60, .inl TB))]) (va_runVN (As := [.int (-(nI (T pv)))]) (rest := []) ⟨hx, hb, hml, hown, hts⟩ (c_X0_add l D cI cJ hl9 hc hst ((c + ta.length + t2.length)) (zapp (zapp C c ta) (c + ta.length) t2) (-(nI (T pv))) (by omega) H.size) ⟨va_cnB 1 hts gX1_readLevel_X0_add_n61 rfl rfl rfl (hN (.methodLinkNest "UpAllRound$Reader" 61 yX0_add "UpAllRound") (List.mem_of_getElem? (i := 38) rfl)) (hts (.initialized RX0) (List.mem_of_getElem? (i := 13) rfl)) (by decide +kernel) ⟨Nat.le_of_ble_eq_true rfl, Nat.le_of_ble_eq_true rfl⟩, (hts (.instanceMethod yX0_add) (List.mem_of_getElem? (i := 12) rfl)), (hts (.selects RX0 yX0_add yX0_add) (List.mem_of_getElem? (i := 14) rfl))⟩ (zpV hK hN hZ hP hD hS hA [1, 2] rfl (by decide) 1 rfl rfl rfl) rfl rfl hl.1 rfl (lv_room (Nat.le_of_ble_eq_true rfl)) dX1_readLevel_98 ⟨Nat.zero_le _, Nat.zero_le _⟩) hP hD hS hA [1, 2] [0, 3] rfl rfl (by decide) (by decide) (fun w_22 H locs h_21 hP hD hS => ?_)
                  obtain rfl := h_21
                  have hP : va_P D vwCl [(h, .inr (1, [.ref hl9, .ref ht, .int (nI L), .ref (ad u), .int (nI q2)])), (ht, .inl (cI, 60, .inl TB)), (hl9, .inr (0, [.ref hc, .int (nI (((c + ta.length + t2.length)) + 1)), .ref hst])), (hc, .inl (cI, 60, .inl (upd (zapp (zapp C c ta) (c + ta.length) t2) ((c + ta.length + t2.length)) (-(nI (T pv))))))] H := hP
                  have hD : va_D AA [(h, .inr (1, [.ref hl9, .ref ht, .int (nI L), .ref (ad u), .int (nI q2)])), (ht, .inl (cI, 60, .inl TB)), (hl9, .inr (0, [.ref hc, .int (nI (((c + ta.length + t2.length)) + 1)), .ref hst])), (hc, .inl (cI, 60, .inl (upd (zapp (zapp C c ta) (c + ta.length) t2) ((c + ta.length + t2.length)) (-(nI (T pv))))))] := hD
                  refine lv_iinc (v := nI (i + 1)) (lv' := [(4, .int (nI (i + 1))), (5, .int (nI (T pv))), (0, .ref h), (1, .int (nI 0)), (2, .int (nI 2)), (3, .int (nI 60))]) hx hb dX1_readLevel_101 hl (k := 5) rfl (nI_add _ _) (by decide) rfl (fun ls hl => ?_)
                  refine lv_goto (tgt := 26) hx hb dX1_readLevel_104 (by decide) ?_
                  rw [show -(nI (T pv)) = zcode (3, T pv) from rfl, zapp1, zlen1 (t := (3, T pv))] at hP hD
                  exact ih_26   f1 q2 ((ta ++ (t2 ++ [(3, T pv)]))) ((i + 1)) (by omega) (zLt (by decide) hz ⟨by omega, by omega⟩ hR2 (by assumption)) (by omega) (by omega) (by rw [← zlen1]; omega) (by omega) ls (lv_sub hl [2, 3, 4, 5, 0] rfl) H locs (hP.sub [0, 2, 3, 1] rfl) (hD.sub [0, 2, 3, 1] (by decide) rfl) hS
                · have c86_20 := bI_0.mp c86_20
                  refine lv_iconst (v := nI 0) hx hb dX1_readLevel_89 (by decide) ?_
                  exact hret hP hD hS dX1_readLevel_90 rfl (by obtain ⟨e1, e2⟩ := zLf hz ⟨by omega, by omega⟩ hR2 (by assumption); subst e1; subst e2; exact ⟨_, _, hq9_18, fun h9 => (by cases h9), (bI_f (by decide)).symm, rfl⟩)
      exact L_26 62  61 q1 t1 0 (by omega) hz (by omega) (by omega) (by omega) (by omega) ls (lv_sub hl [2, 3, 4, 1, 0] rfl) _ _ hP hD hS
    · have c13_9 : 0 = 2 := (nI_eq (a := 0) (b := 2) (by omega) (by omega)).mp c13_9
      exact absurd c13_9 (by omega)
  · have c6_8 := bI_0.mp c6_8
    refine lv_iconst (v := nI 0) hx hb dX1_readLevel_9 (by decide) ?_
    exact hret hP hD hS dX1_readLevel_10 rfl (by obtain ⟨e1, e2⟩ := zLv_ff hR hR1 (by assumption); subst e1; subst e2; exact ⟨_, _, hq9_6, fun h9 => (by cases h9), (bI_f (by decide)).symm, rfl⟩)
set_option maxHeartbeats 4000000 in
set_option maxRecDepth 100000 in
theorem c_X1_readNot_2 (l : Launch) (D : va_G) (cI cJ : ClassId) (ad : Nat → Nat) (bd : Nat → Nat) (h : Nat) (hl9 : Nat) (ht : Nat) (hc : Nat) (hst : Nat) (L : Nat) (u : Nat) (T : Nat → Nat) (TB : Nat → Int32) (p : Nat) (c : Nat) (C : Nat → Int32) (b : Bool) (q : Nat) (tl : zTks) (hL : L ≤ 60) (hu1 : u ≤ 1) (hT : ∀ i, i < L → T i < 256) (htb : ∀ i, i < L → TB i = nI (T i)) (hp : p ≤ L) (hcp : c + 1 ≤ p) (hR : zQ T L u 3 p = (b, q, tl)) : zTi ad bd l yX1_readNot wsX1_readNot ({ frames := 38, cells := 0, slots := 0, locals := 888 } : Room) D [(cI, .int), (cJ, .array .int)] [.ref h, .int (nI 2)] [(h, .inr (1, [.ref hl9, .ref ht, .int (nI L), .ref (ad u), .int (nI p)])), (hl9, .inr (0, [.ref hc, .int (nI c), .ref hst])), (hc, .inl (cI, 60, .inl C)), (ht, .inl (cI, 60, .inl TB))] (fun r w => ∃ (c9 : Nat) (C9 : Nat → Int32), c9 ≤ q ∧ (b = true → c9 = c + (tl ++ [(2, 0)]).length ∧ C9 = zapp C c (tl ++ [(2, 0)])) ∧ r = bI (b = true) ∧ w = [(h, .inr (1, [.ref hl9, .ref ht, .int (nI L), .ref (ad u), .int (nI q)])), (hl9, .inr (0, [.ref hc, .int (nI c9), .ref hst])), (hc, .inl (cI, 60, .inl C9)), (ht, .inl (cI, 60, .inl TB))]) := by
  refine zTi.start (cc := cX1_readNot) (maxL := 2) (rt := .boolean) (by first | decide | decide +kernel) rfl (Nat.le_of_ble_eq_true rfl) ?_
  intro pg ev s mt args below meth cd ls AA QQ ⟨hx, hb, hml, hr, hlocks, hown, hts, hK, hN, hZ, hP, hD, hA, hS, hl⟩ hG hret
  have hown : s.vm.findClass RX1 = some mt.cls := hown
  have hl : lv_has ls 2 [(0, .ref h), (1, .int (nI 2))] := hl
  have hin0 : ∀ w ∈ wsX00, w ∈ wsX1_readNot := fun w h => List.mem_cons_of_mem _ (List.mem_append_right _ (h))
  have hin1 : ∀ w ∈ wsX10, w ∈ wsX1_readNot := fun w h => List.mem_cons_of_mem _ (List.mem_append_left _ (List.mem_append_right _ (h)))
  refine lv_aload_n hx hb dX1_readNot_0 rfl (lv_at hl 0 rfl) ?_
  have hg1 := zQ_gd (T := T) (L := L) (u := u) 3 p hp
  rw [hR] at hg1
  obtain ⟨hga1, hgb1, hgc1⟩ : p ≤ q ∧ q ≤ L ∧ (b = true → p < q ∧ tl.length ≤ q - p ∧ zw1 tl) := hg1
  refine lv_iload_n hx hb dX1_readNot_1 rfl (lv_at hl 1 rfl) ?_
  refine zci (wr := []) (va_runV (As := [.int (nI 2)]) (rest := []) ⟨hx, hb, hml, hown, hts⟩ (c_X1_readQ_2 l D cI cJ ad bd h hl9 ht hc hst L u T TB p c C b q tl (by first | rfl | assumption | omega) (by first | rfl | assumption | omega) (by first | rfl | assumption | omega) (by first | rfl | assumption | omega) (by first | rfl | assumption | omega) (by omega) hR s.heap.size) (cwV 1 hts gX1_readNot_X1_readQ rfl rfl rfl (by decide +kernel) ⟨Nat.le_of_ble_eq_true rfl, Nat.le_of_ble_eq_true rfl⟩) (zpVs hG hK hN hZ hP hD hS hA [0, 1, 2, 3] rfl (by decide) 0 rfl rfl rfl) rfl rfl hl.1 rfl (lv_room (Nat.le_of_ble_eq_true rfl)) dX1_readNot_2 ⟨Nat.zero_le _, Nat.zero_le _⟩) hP hD hS hA [0, 1, 2, 3] [] rfl rfl (by decide) (by decide) (fun r_3 w_2 H locs h_1 hP hD hS => ?_)
  obtain ⟨c9_4, C9_5, hq9_6, hx9_7, rfl, rfl⟩ := h_1
  have hP : va_P D vwCl [(h, .inr (1, [.ref hl9, .ref ht, .int (nI L), .ref (ad u), .int (nI q)])), (hl9, .inr (0, [.ref hc, .int (nI c9_4), .ref hst])), (hc, .inl (cI, 60, .inl C9_5)), (ht, .inl (cI, 60, .inl TB))] H := hP
  have hD : va_D AA [(h, .inr (1, [.ref hl9, .ref ht, .int (nI L), .ref (ad u), .int (nI q)])), (hl9, .inr (0, [.ref hc, .int (nI c9_4), .ref hst])), (hc, .inl (cI, 60, .inl C9_5)), (ht, .inl (cI, 60, .inl TB))] := hD
  refine lv_if_ne (tgt := 10) hx hb dX1_readNot_5 (by decide) (fun c5_8 => ?_) (fun c5_8 => ?_)
  · have c5_8 := bI_n0.mp c5_8
    obtain ⟨hgd1, hge1, hgf1⟩ := hgc1 c5_8
    obtain ⟨he1, hE1⟩ := hx9_7 c5_8
    subst he1; subst hE1
    refine lv_aload_n hx hb dX1_readNot_10 rfl (lv_at hl 0 rfl) ?_
    refine va_get (ci := 1) (v := .ref hl9) (C := RX1) (T := TX1) (N := 5) hx hb hts hin1 hown hK hP 0 rfl rfl 0 (by decide) (hts (.fieldLink RX1 12 "UpAllRound$Reader" "law" "LUpAllRound$Law;") (List.mem_of_getElem? (i := 1) rfl)) (fun _ h9 => h9) rfl dX1_readNot_11 ?_
    refine lv_bipush (v := (-33)) hx hb dX1_readNot_14 (by decide) ?_
    refine zcv (wr := [(h, .inr (1, [.ref hl9, .ref ht, .int (nI L), .ref (ad u), .int (nI q)])), (ht, .inl (cI, 60, .inl TB))]) (va_runVN (As := [.int ((-33))]) (rest := []) ⟨hx, hb, hml, hown, hts⟩ (c_X0_add l D cI cJ hl9 hc hst ((c + tl.length)) (zapp C c tl) ((-33)) (by omega) H.size) ⟨va_cnB 1 hts gX1_readNot_X0_add_n61 rfl rfl rfl (hN (.methodLinkNest "UpAllRound$Reader" 61 yX0_add "UpAllRound") (List.mem_of_getElem? (i := 38) rfl)) (hts (.initialized RX0) (List.mem_of_getElem? (i := 7) rfl)) (by decide +kernel) ⟨Nat.le_of_ble_eq_true rfl, Nat.le_of_ble_eq_true rfl⟩, (hts (.instanceMethod yX0_add) (List.mem_of_getElem? (i := 6) rfl)), (hts (.selects RX0 yX0_add yX0_add) (List.mem_of_getElem? (i := 8) rfl))⟩ (zpV hK hN hZ hP hD hS hA [1, 2] rfl (by decide) 1 rfl rfl rfl) rfl rfl hl.1 rfl (lv_room (Nat.le_of_ble_eq_true rfl)) dX1_readNot_16 ⟨Nat.zero_le _, Nat.zero_le _⟩) hP hD hS hA [1, 2] [0, 3] rfl rfl (by decide) (by decide) (fun w_10 H locs h_9 hP hD hS => ?_)
    obtain rfl := h_9
    have hP : va_P D vwCl [(h, .inr (1, [.ref hl9, .ref ht, .int (nI L), .ref (ad u), .int (nI q)])), (ht, .inl (cI, 60, .inl TB)), (hl9, .inr (0, [.ref hc, .int (nI (((c + tl.length)) + 1)), .ref hst])), (hc, .inl (cI, 60, .inl (upd (zapp C c tl) ((c + tl.length)) ((-33)))))] H := hP
    have hD : va_D AA [(h, .inr (1, [.ref hl9, .ref ht, .int (nI L), .ref (ad u), .int (nI q)])), (ht, .inl (cI, 60, .inl TB)), (hl9, .inr (0, [.ref hc, .int (nI (((c + tl.length)) + 1)), .ref hst])), (hc, .inl (cI, 60, .inl (upd (zapp C c tl) ((c + tl.length)) ((-33)))))] := hD
    refine lv_iconst (v := nI 1) hx hb dX1_readNot_19 (by decide) ?_
    have hP := hP.sub (ws' := [(h, .inr (1, [.ref hl9, .ref ht, .int (nI L), .ref (ad u), .int (nI q)])), (hl9, .inr (0, [.ref hc, .int (nI (((c + tl.length)) + 1)), .ref hst])), (hc, .inl (cI, 60, .inl (upd (zapp C c tl) ((c + tl.length)) ((-33))))), (ht, .inl (cI, 60, .inl TB))]) [0, 2, 3, 1] rfl
    have hD := hD.sub (ws' := [(h, .inr (1, [.ref hl9, .ref ht, .int (nI L), .ref (ad u), .int (nI q)])), (hl9, .inr (0, [.ref hc, .int (nI (((c + tl.length)) + 1)), .ref hst])), (hc, .inl (cI, 60, .inl (upd (zapp C c tl) ((c + tl.length)) ((-33))))), (ht, .inl (cI, 60, .inl TB))]) [0, 2, 3, 1] (by decide) rfl
    exact hret hP hD hS dX1_readNot_20 rfl (by exact ⟨_, _, show c + tl.length + 1 ≤ q from (by omega), fun _ => ⟨(by rw [List.length_append] <;> rfl), zapp0⟩, (bI_t (by assumption)).symm, rfl⟩)
  · have c5_8 := bI_0.mp c5_8
    refine lv_iconst (v := nI 0) hx hb dX1_readNot_8 (by decide) ?_
    exact hret hP hD hS dX1_readNot_9 rfl (by exact ⟨_, _, hq9_6, fun h9 => absurd h9 (by assumption), (bI_f (by assumption)).symm, rfl⟩)
set_option maxHeartbeats 4000000 in
set_option maxRecDepth 100000 in
theorem c_X1_readQ_1 (l : Launch) (D : va_G) (cI cJ : ClassId) (ad : Nat → Nat) (bd : Nat → Nat) (h : Nat) (hl9 : Nat) (ht : Nat) (hc : Nat) (hst : Nat) (L : Nat) (u : Nat) (T : Nat → Nat) (TB : Nat → Int32) (p : Nat) (c : Nat) (C : Nat → Int32) (b : Bool) (q : Nat) (tl : zTks) (hL : L ≤ 60) (hu1 : u ≤ 1) (hT : ∀ i, i < L → T i < 256) (htb : ∀ i, i < L → TB i = nI (T i)) (hp : p ≤ L) (hcp : c ≤ p) (hR : zQ T L u 4 p = (b, q, tl)) : zTi ad bd l yX1_readQ wsX1_readQ ({ frames := 48, cells := 0, slots := 0, locals := 1123 } : Room) D [(cI, .int), (cJ, .array .int)] [.ref h, .int (nI 1)] [(h, .inr (1, [.ref hl9, .ref ht, .int (nI L), .ref (ad u), .int (nI p)])), (hl9, .inr (0, [.ref hc, .int (nI c), .ref hst])), (hc, .inl (cI, 60, .inl C)), (ht, .inl (cI, 60, .inl TB))] (fun r w => ∃ (c9 : Nat) (C9 : Nat → Int32), c9 ≤ q ∧ (b = true → c9 = c + tl.length ∧ C9 = zapp C c tl) ∧ r = bI (b = true) ∧ w = [(h, .inr (1, [.ref hl9, .ref ht, .int (nI L), .ref (ad u), .int (nI q)])), (hl9, .inr (0, [.ref hc, .int (nI c9), .ref hst])), (hc, .inl (cI, 60, .inl C9)), (ht, .inl (cI, 60, .inl TB))]) := by
  refine zTi.start (cc := cX1_readQ) (maxL := 4) (rt := .boolean) (by first | decide | decide +kernel) rfl (Nat.le_of_ble_eq_true rfl) ?_
  intro pg ev s mt args below meth cd ls AA QQ ⟨hx, hb, hml, hr, hlocks, hown, hts, hK, hN, hZ, hP, hD, hA, hS, hl⟩ hG hret
  have hown : s.vm.findClass RX1 = some mt.cls := hown
  have hl : lv_has ls 4 [(0, .ref h), (1, .int (nI 1))] := hl
  have hin0 : ∀ w ∈ wsX00, w ∈ wsX1_readQ := fun w h => List.mem_cons_of_mem _ (List.mem_append_right _ (h))
  have hin1 : ∀ w ∈ wsX10, w ∈ wsX1_readQ := fun w h => List.mem_cons_of_mem _ (List.mem_append_left _ (List.mem_append_right _ (h)))
  have hR : zQb T L u true (zQ T L u 3) (zLS T L (zQ T L u 3) 5) p = (b, q, tl) := hR
  refine lv_aload_n hx hb dX1_readQ_0 rfl (lv_at hl 0 rfl) ?_
  refine va_get (ci := 1) (v := .int (nI p)) (C := RX1) (T := TX1) (N := 5) hx hb hts hin1 hown hK hP 0 rfl rfl 4 (by decide) (hts (.fieldLink RX1 32 "UpAllRound$Reader" "place" "I") (List.mem_of_getElem? (i := 1) rfl)) (fun _ h9 => h9) rfl dX1_readQ_1 ?_
  refine lv_aload_n hx hb dX1_readQ_4 rfl (lv_at hl 0 rfl) ?_
  refine va_get (ci := 1) (v := .int (nI L)) (C := RX1) (T := TX1) (N := 5) hx hb hts hin1 hown hK hP 0 rfl rfl 2 (by decide) (hts (.fieldLink RX1 22 "UpAllRound$Reader" "length" "I") (List.mem_of_getElem? (i := 2) rfl)) (fun _ h9 => h9) rfl dX1_readQ_5 ?_
  refine lv_icmp_lt (tgt := 13) hx hb dX1_readQ_8 (by decide) (fun c8_1 => ?_) (fun c8_1 => ?_)
  · have c8_1 : p < L := (nI_ltI (a := p) (b := L) (by omega) (by omega)).mp c8_1
    refine lv_aload_n hx hb dX1_readQ_13 rfl (lv_at hl 0 rfl) ?_
    refine va_get (ci := 1) (v := .ref ht) (C := RX1) (T := TX1) (N := 5) hx hb hts hin1 hown hK hP 0 rfl rfl 1 (by decide) (hts (.fieldLink RX1 18 "UpAllRound$Reader" "tape" "[I") (List.mem_of_getElem? (i := 3) rfl)) (fun _ h9 => h9) rfl dX1_readQ_14 ?_
    refine lv_aload_n hx hb dX1_readQ_17 rfl (lv_at hl 0 rfl) ?_
    refine va_get (ci := 1) (v := .int (nI p)) (C := RX1) (T := TX1) (N := 5) hx hb hts hin1 hown hK hP 0 rfl rfl 4 (by decide) (hts (.fieldLink RX1 32 "UpAllRound$Reader" "place" "I") (List.mem_of_getElem? (i := 1) rfl)) (fun _ h9 => h9) rfl dX1_readQ_18 ?_
    refine zald (t := p) hx hb hK hP 3 rfl (by omega) (by decide) dX1_readQ_21 ?_
    refine zrw (htb p (by omega)) ?_
    refine lv_istore_n (lv' := [(2, .int (nI (T p))), (0, .ref h), (1, .int (nI 1))]) hx hb dX1_readQ_22 rfl hl (by decide) rfl (fun ls hl => ?_)
    refine lv_iload_n hx hb dX1_readQ_23 rfl (lv_at hl 0 rfl) ?_
    refine zcsE (va_runS (As := [.int (nI (T p))]) (rest := []) ⟨hx, hb, hml, hown, hts⟩ (c_X1_isDigit l D cI cJ (T p) (hT p (by omega)) s.heap.size) (va_cwS 1 hts gX1_readQ_X1_isDigit rfl rfl rfl (by decide +kernel) ⟨Nat.le_of_ble_eq_true rfl, Nat.le_of_ble_eq_true rfl⟩) (zpS hK hN hZ hP hD hS hA [] rfl (by decide)) rfl rfl hl.1 rfl (lv_room (Nat.le_of_ble_eq_true rfl)) dX1_readQ_24 ⟨Nat.zero_le _, Nat.zero_le _⟩) ?_
    refine lv_if_eq (tgt := 36) hx hb dX1_readQ_27 (by decide) (fun c27_2 => ?_) (fun c27_2 => ?_)
    · have c27_2 := bI_0.mp c27_2
      refine lv_aload_n hx hb dX1_readQ_36 rfl (lv_at hl 1 rfl) ?_
      refine va_get (ci := 1) (v := .ref (ad u)) (C := RX1) (T := TX1) (N := 5) hx hb hts hin1 hown hK hP 0 rfl rfl 3 (by decide) (hts (.fieldLink RX1 28 "UpAllRound$Reader" "names" "Ljava/lang/String;") (List.mem_of_getElem? (i := 4) rfl)) (fun _ h9 => h9) rfl dX1_readQ_37 ?_
      refine lv_iload_n hx hb dX1_readQ_40 rfl (lv_at hl 0 rfl) ?_
      refine lv_i2c (v := nI (T p)) hx hb dX1_readQ_41 (zi2c _ (hT p (by omega))) ?_
      refine zcsE (va_runV (As := [.int (nI (T p))]) (rest := []) ⟨hx, hb, hml, hown, hts⟩ (c_J0_indexOf l D cI cJ ad bd u ((T p)) (by first | rfl | assumption | omega) (hT p (by omega)) s.heap.size) (cwV 1 hts gX1_readQ_J0_indexOf_0f7a4 rfl rfl rfl (by decide +kernel) ⟨Nat.le_of_ble_eq_true rfl, Nat.le_of_ble_eq_true rfl⟩) (zpVk (show u < 3 by omega) rfl hG hK hN hZ hP hD hS hA [] rfl (by decide)) rfl rfl hl.1 rfl (lv_room (Nat.le_of_ble_eq_true rfl)) dX1_readQ_42 ⟨Nat.zero_le _, Nat.zero_le _⟩) ?_
      rcases hnx : znx u (T p) with _ | j
      · refine zrw (show zbw none = (-1) from rfl) ?_
        refine lv_istore_n (lv' := [(3, .int ((-1))), (2, .int (nI (T p))), (0, .ref h), (1, .int (nI 1))]) hx hb dX1_readQ_45 rfl hl (by decide) rfl (fun ls hl => ?_)
        refine lv_iload_n hx hb dX1_readQ_46 rfl (lv_at hl 0 rfl) ?_
        refine lv_if_lt (tgt := 72) hx hb dX1_readQ_47 (by decide) (fun c47_3 => ?_) (fun c47_3 => ?_)
        · refine lv_iload_n hx hb dX1_readQ_72 rfl (lv_at hl 1 rfl) ?_
          refine lv_bipush (v := nI 33) hx hb dX1_readQ_73 (by decide) ?_
          refine lv_icmp_eq (tgt := 84) hx hb dX1_readQ_75 (by decide) (fun c75_4 => ?_) (fun c75_4 => ?_)
          · have c75_4 : (T p) = 33 := (nI_eq (a := T p) (b := 33) (by have h91 := hT p (by omega); omega) (by have h91 := hT p (by omega); omega)).mp c75_4
            refine lv_iload_n hx hb dX1_readQ_84 rfl (lv_at hl 3 rfl) ?_
            refine lv_iconst (v := nI 5) hx hb dX1_readQ_85 (by decide) ?_
            refine lv_icmp_lt (tgt := 91) hx hb dX1_readQ_86 (by decide) (fun c86_5 => ?_) (fun c86_5 => ?_)
            · have c86_5 : 1 < 5 := (nI_ltI (a := 1) (b := 5) (by omega) (by omega)).mp c86_5
              refine lv_aload_n hx hb dX1_readQ_91 rfl (lv_at hl 2 rfl) ?_
              refine lv_dup hx hb dX1_readQ_92 rfl ?_
              refine va_get (ci := 1) (v := .int (nI p)) (C := RX1) (T := TX1) (N := 5) hx hb hts hin1 hown hK hP 0 rfl rfl 4 (by decide) (hts (.fieldLink RX1 32 "UpAllRound$Reader" "place" "I") (List.mem_of_getElem? (i := 1) rfl)) (fun _ h9 => h9) rfl dX1_readQ_93 ?_
              refine lv_iconst (v := nI 1) hx hb dX1_readQ_96 (by decide) ?_
              refine lv_iadd hx hb dX1_readQ_97 ?_
              refine zrw (nI_add _ _) ?_
              refine va_put (ci := 1) (v := .int (nI (p + 1))) (ty := .int) (C := RX1) (T := TX1) (N := 5) hx hb hts hin1 tyX1 tyX1_ok nmX1 hown hK hP hD hS 0 rfl rfl 4 (by decide) (hts (.fieldLink RX1 32 "UpAllRound$Reader" "place" "I") (List.mem_of_getElem? (i := 1) rfl)) (fun _ h9 => h9) rfl (by decide +kernel) rfl rfl (Nat.le_of_ble_eq_true rfl) dX1_readQ_98 (fun H locs hP hD hS => ?_)
              have hP : va_P D vwCl [(h, .inr (1, [.ref hl9, .ref ht, .int (nI L), .ref (ad u), .int (nI (p + 1))])), (hl9, .inr (0, [.ref hc, .int (nI c), .ref hst])), (hc, .inl (cI, 60, .inl C)), (ht, .inl (cI, 60, .inl TB))] H := hP
              have hD : va_D AA [(h, .inr (1, [.ref hl9, .ref ht, .int (nI L), .ref (ad u), .int (nI (p + 1))])), (hl9, .inr (0, [.ref hc, .int (nI c), .ref hst])), (hc, .inl (cI, 60, .inl C)), (ht, .inl (cI, 60, .inl TB))] := hD
              refine lv_iload_n hx hb dX1_readQ_101 rfl (lv_at hl 1 rfl) ?_
              refine lv_bipush (v := nI 33) hx hb dX1_readQ_102 (by decide) ?_
              refine lv_icmp_ne (tgt := 117) hx hb dX1_readQ_104 (by decide) (fun c104_6 => ?_) (fun c104_6 => ?_)
              · have c104_6 : ¬ ((T p) = 33) := fun h9 => c104_6 ((nI_eq (a := T p) (b := 33) (by have h91 := hT p (by omega); omega) (by have h91 := hT p (by omega); omega)).mpr h9)
                obtain ⟨b1, q1, t1, hR1⟩ : ∃ (b0 : Bool) (q0 : Nat) (t0 : zTks), zLS T L (zQ T L u 3) 5 (p + 1) = (b0, q0, t0) := ⟨_, _, _, rfl⟩
                have hg1 := (zLS_gd (T := T) (zQ_gd (T := T) (L := L) (u := u) 3) 5) (p + 1) (by omega)
                rw [hR1] at hg1
                obtain ⟨hga1, hgb1, hgc1⟩ : (p + 1) ≤ q1 ∧ q1 ≤ L ∧ (b1 = true → (p + 1) < q1 ∧ t1.length ≤ q1 - (p + 1) ∧ zw1 t1) := hg1
                refine lv_aload_n hx hb dX1_readQ_117 rfl (lv_at hl 2 rfl) ?_
                refine lv_iconst (v := nI 0) hx hb dX1_readQ_118 (by decide) ?_
                refine lv_iload_n hx hb dX1_readQ_119 rfl (lv_at hl 3 rfl) ?_
                refine lv_iconst (v := nI 1) hx hb dX1_readQ_120 (by decide) ?_
                refine lv_iadd hx hb dX1_readQ_121 ?_
                refine zrw (nI_add _ _) ?_
                refine zci (wr := []) (va_runV (As := [.int (nI 0), .int (nI 2)]) (rest := []) ⟨hx, hb, hml, hown, hts⟩ (c_X1_readLevel_0_2 l D cI cJ ad bd h hl9 ht hc hst L u T TB (p + 1) c C b1 q1 t1 (by first | rfl | assumption | omega) (by first | rfl | assumption | omega) (by first | rfl | assumption | omega) (by first | rfl | assumption | omega) (by omega) (by omega) hR1 H.size) (cwV 2 hts gX1_readQ_X1_readLevel rfl rfl rfl (by decide +kernel) ⟨Nat.le_of_ble_eq_true rfl, Nat.le_of_ble_eq_true rfl⟩) (zpVs hG hK hN hZ hP hD hS hA [0, 1, 2, 3] rfl (by decide) 0 rfl rfl rfl) rfl rfl hl.1 rfl (lv_room (Nat.le_of_ble_eq_true rfl)) dX1_readQ_122 ⟨Nat.zero_le _, Nat.zero_le _⟩) hP hD hS hA [0, 1, 2, 3] [] rfl rfl (by decide) (by decide) (fun r_9 w_8 H locs h_7 hP hD hS => ?_)
                obtain ⟨c9_10, C9_11, hq9_12, hx9_13, rfl, rfl⟩ := h_7
                have hP : va_P D vwCl [(h, .inr (1, [.ref hl9, .ref ht, .int (nI L), .ref (ad u), .int (nI q1)])), (hl9, .inr (0, [.ref hc, .int (nI c9_10), .ref hst])), (hc, .inl (cI, 60, .inl C9_11)), (ht, .inl (cI, 60, .inl TB))] H := hP
                have hD : va_D AA [(h, .inr (1, [.ref hl9, .ref ht, .int (nI L), .ref (ad u), .int (nI q1)])), (hl9, .inr (0, [.ref hc, .int (nI c9_10), .ref hst])), (hc, .inl (cI, 60, .inl C9_11)), (ht, .inl (cI, 60, .inl TB))] := hD
                refine lv_if_eq (tgt := 139) hx hb dX1_readQ_125 (by decide) (fun c125_14 => ?_) (fun c125_14 => ?_)
                · have c125_14 := bI_0.mp c125_14
                  refine lv_iconst (v := nI 0) hx hb dX1_readQ_139 (by decide) ?_
                  exact hret hP hD hS dX1_readQ_140 rfl (by obtain ⟨e1, e2⟩ := zq_pf hR (by omega) (by assumption) hnx (by omega) hR1 (fun h9 => absurd h9.1 (by assumption)); subst e1; subst e2; exact ⟨_, _, hq9_12, fun h9 => (by cases h9), (bI_f (by decide)).symm, rfl⟩)
                · have c125_14 := bI_n0.mp c125_14
                  obtain ⟨hgd1, hge1, hgf1⟩ := hgc1 c125_14
                  obtain ⟨he1, hE1⟩ := hx9_13 c125_14
                  subst he1; subst hE1
                  refine lv_aload_n hx hb dX1_readQ_128 rfl (lv_at hl 2 rfl) ?_
                  refine zci (wr := []) (va_runV (As := []) (rest := []) ⟨hx, hb, hml, hown, hts⟩ (c_X1_readClose l D cI cJ ad bd h hl9 ht hc hst L u T TB q1 ((c + t1.length)) (zapp C c t1) (by first | rfl | assumption | omega) (by first | rfl | assumption | omega) (by first | rfl | assumption | omega) (by first | rfl | assumption | omega) (by first | rfl | assumption | omega) H.size) (cwV 0 hts gX1_readQ_X1_readClose rfl rfl rfl (by decide +kernel) ⟨Nat.le_of_ble_eq_true rfl, Nat.le_of_ble_eq_true rfl⟩) (zpV hK hN hZ hP hD hS hA [0, 1, 2, 3] rfl (by decide) 0 rfl rfl rfl) rfl rfl hl.1 rfl (lv_room (Nat.le_of_ble_eq_true rfl)) dX1_readQ_129 ⟨Nat.zero_le _, Nat.zero_le _⟩) hP hD hS hA [0, 1, 2, 3] [] rfl rfl (by decide) (by decide) (fun r_17 w_16 H locs h_15 hP hD hS => ?_)
                  obtain ⟨rfl, rfl⟩ := h_15
                  have hP : va_P D vwCl [(h, .inr (1, [.ref hl9, .ref ht, .int (nI L), .ref (ad u), .int (nI ((if (q1 < L ∧ T q1 = 41) then q1 + 1 else q1)))])), (hl9, .inr (0, [.ref hc, .int (nI (((c + t1.length)))), .ref hst])), (hc, .inl (cI, 60, .inl ((zapp C c t1)))), (ht, .inl (cI, 60, .inl TB))] H := hP
                  have hD : va_D AA [(h, .inr (1, [.ref hl9, .ref ht, .int (nI L), .ref (ad u), .int (nI ((if (q1 < L ∧ T q1 = 41) then q1 + 1 else q1)))])), (hl9, .inr (0, [.ref hc, .int (nI (((c + t1.length)))), .ref hst])), (hc, .inl (cI, 60, .inl ((zapp C c t1)))), (ht, .inl (cI, 60, .inl TB))] := hD
                  refine lv_if_eq (tgt := 139) hx hb dX1_readQ_132 (by decide) (fun c132_18 => ?_) (fun c132_18 => ?_)
                  · have c132_18 := bI_0.mp c132_18
                    rw [if_neg c132_18] at hP hD
                    have hP : va_P D vwCl [(h, .inr (1, [.ref hl9, .ref ht, .int (nI L), .ref (ad u), .int (nI q1)])), (hl9, .inr (0, [.ref hc, .int (nI (((c + t1.length)))), .ref hst])), (hc, .inl (cI, 60, .inl ((zapp C c t1)))), (ht, .inl (cI, 60, .inl TB))] H := hP
                    have hD : va_D AA [(h, .inr (1, [.ref hl9, .ref ht, .int (nI L), .ref (ad u), .int (nI q1)])), (hl9, .inr (0, [.ref hc, .int (nI (((c + t1.length)))), .ref hst])), (hc, .inl (cI, 60, .inl ((zapp C c t1)))), (ht, .inl (cI, 60, .inl TB))] := hD
                    refine lv_iconst (v := nI 0) hx hb dX1_readQ_139 (by decide) ?_
                    exact hret hP hD hS dX1_readQ_140 rfl (by obtain ⟨e1, e2⟩ := zq_pf hR (by omega) (by assumption) hnx (by omega) hR1 (fun h9 => absurd h9.2 (by assumption)); subst e1; subst e2; exact ⟨_, _, by omega, fun h9 => (by cases h9), (bI_f (by decide)).symm, rfl⟩)
                  · have c132_18 := bI_n0.mp c132_18
                    rw [if_pos c132_18] at hP hD
                    have hP : va_P D vwCl [(h, .inr (1, [.ref hl9, .ref ht, .int (nI L), .ref (ad u), .int (nI (q1 + 1))])), (hl9, .inr (0, [.ref hc, .int (nI (((c + t1.length)))), .ref hst])), (hc, .inl (cI, 60, .inl ((zapp C c t1)))), (ht, .inl (cI, 60, .inl TB))] H := hP
                    have hD : va_D AA [(h, .inr (1, [.ref hl9, .ref ht, .int (nI L), .ref (ad u), .int (nI (q1 + 1))])), (hl9, .inr (0, [.ref hc, .int (nI (((c + t1.length)))), .ref hst])), (hc, .inl (cI, 60, .inl ((zapp C c t1)))), (ht, .inl (cI, 60, .inl TB))] := hD
                    refine lv_iconst (v := nI 1) hx hb dX1_readQ_135 (by decide) ?_
                    refine lv_goto (tgt := 140) hx hb dX1_readQ_136 (by decide) ?_
                    exact hret hP hD hS dX1_readQ_140 rfl (by obtain ⟨e1, e2, e3⟩ := zq_pt hR (by omega) (by assumption) hnx (by omega) hR1 (by assumption) (by assumption); subst e1; subst e2; subst e3; exact ⟨_, _, by omega, fun _ => ⟨rfl, rfl⟩, (bI_t rfl).symm, rfl⟩)
              · have c104_6 : (T p) = 33 := (nI_eq (a := T p) (b := 33) (by have h91 := hT p (by omega); omega) (by have h91 := hT p (by omega); omega)).mp c104_6
                obtain ⟨b1, q1, t1, hR1⟩ : ∃ (b0 : Bool) (q0 : Nat) (t0 : zTks), zQ T L u 3 (p + 1) = (b0, q0, t0) := ⟨_, _, _, rfl⟩
                have hg1 := (zQ_gd (T := T) (L := L) (u := u) 3) (p + 1) (by omega)
                rw [hR1] at hg1
                obtain ⟨hga1, hgb1, hgc1⟩ : (p + 1) ≤ q1 ∧ q1 ≤ L ∧ (b1 = true → (p + 1) < q1 ∧ t1.length ≤ q1 - (p + 1) ∧ zw1 t1) := hg1
                refine lv_aload_n hx hb dX1_readQ_107 rfl (lv_at hl 2 rfl) ?_
                refine lv_iload_n hx hb dX1_readQ_108 rfl (lv_at hl 3 rfl) ?_
                refine lv_iconst (v := nI 1) hx hb dX1_readQ_109 (by decide) ?_
                refine lv_iadd hx hb dX1_readQ_110 ?_
                refine zrw (nI_add _ _) ?_
                refine zci (wr := []) (va_runV (As := [.int (nI 2)]) (rest := []) ⟨hx, hb, hml, hown, hts⟩ (c_X1_readNot_2 l D cI cJ ad bd h hl9 ht hc hst L u T TB (p + 1) c C b1 q1 t1 (by first | rfl | assumption | omega) (by first | rfl | assumption | omega) (by first | rfl | assumption | omega) (by first | rfl | assumption | omega) (by omega) (by omega) hR1 H.size) (cwV 1 hts gX1_readQ_X1_readNot rfl rfl rfl (by decide +kernel) ⟨Nat.le_of_ble_eq_true rfl, Nat.le_of_ble_eq_true rfl⟩) (zpVs hG hK hN hZ hP hD hS hA [0, 1, 2, 3] rfl (by decide) 0 rfl rfl rfl) rfl rfl hl.1 rfl (lv_room (Nat.le_of_ble_eq_true rfl)) dX1_readQ_111 ⟨Nat.zero_le _, Nat.zero_le _⟩) hP hD hS hA [0, 1, 2, 3] [] rfl rfl (by decide) (by decide) (fun r_21 w_20 H locs h_19 hP hD hS => ?_)
                obtain ⟨c9_22, C9_23, hq9_24, hx9_25, rfl, rfl⟩ := h_19
                have hP : va_P D vwCl [(h, .inr (1, [.ref hl9, .ref ht, .int (nI L), .ref (ad u), .int (nI q1)])), (hl9, .inr (0, [.ref hc, .int (nI c9_22), .ref hst])), (hc, .inl (cI, 60, .inl C9_23)), (ht, .inl (cI, 60, .inl TB))] H := hP
                have hD : va_D AA [(h, .inr (1, [.ref hl9, .ref ht, .int (nI L), .ref (ad u), .int (nI q1)])), (hl9, .inr (0, [.ref hc, .int (nI c9_22), .ref hst])), (hc, .inl (cI, 60, .inl C9_23)), (ht, .inl (cI, 60, .inl TB))] := hD
                refine lv_goto (tgt := 140) hx hb dX1_readQ_114 (by decide) ?_
                exact hret hP hD hS dX1_readQ_140 nar_bI (by obtain ⟨e1, e2, e3⟩ := zq_not hR (by omega) (by assumption) hnx (by omega) hR1; subst e1; subst e2; exact ⟨_, _, hq9_24, fun h9 => by rw [e3 h9]; exact hx9_25 h9, rfl, rfl⟩)
            · have c86_5 : ¬ (1 < 5) := fun h9 => c86_5 ((nI_ltI (a := 1) (b := 5) (by omega) (by omega)).mpr h9)
              exact absurd c86_5 (by omega)
          · have c75_4 : ¬ ((T p) = 33) := fun h9 => c75_4 ((nI_eq (a := T p) (b := 33) (by have h91 := hT p (by omega); omega) (by have h91 := hT p (by omega); omega)).mpr h9)
            refine lv_iload_n hx hb dX1_readQ_78 rfl (lv_at hl 1 rfl) ?_
            refine lv_bipush (v := nI 40) hx hb dX1_readQ_79 (by decide) ?_
            refine lv_icmp_ne (tgt := 89) hx hb dX1_readQ_81 (by decide) (fun c81_26 => ?_) (fun c81_26 => ?_)
            · have c81_26 : ¬ ((T p) = 40) := fun h9 => c81_26 ((nI_eq (a := T p) (b := 40) (by have h91 := hT p (by omega); omega) (by have h91 := hT p (by omega); omega)).mpr h9)
              refine lv_iconst (v := nI 0) hx hb dX1_readQ_89 (by decide) ?_
              exact hret hP hD hS dX1_readQ_90 rfl (by obtain ⟨e1, e2⟩ := zq_z hR (by omega) (by assumption) hnx (fun h9 => by have h91 := h9.1; omega) (fun h9 => by have h91 := h9.1; omega); subst e1; subst e2; exact ⟨_, _, hcp, fun h9 => (by cases h9), (bI_f (by decide)).symm, rfl⟩)
            · have c81_26 : (T p) = 40 := (nI_eq (a := T p) (b := 40) (by have h91 := hT p (by omega); omega) (by have h91 := hT p (by omega); omega)).mp c81_26
              refine lv_iload_n hx hb dX1_readQ_84 rfl (lv_at hl 3 rfl) ?_
              refine lv_iconst (v := nI 5) hx hb dX1_readQ_85 (by decide) ?_
              refine lv_icmp_lt (tgt := 91) hx hb dX1_readQ_86 (by decide) (fun c86_27 => ?_) (fun c86_27 => ?_)
              · have c86_27 : 1 < 5 := (nI_ltI (a := 1) (b := 5) (by omega) (by omega)).mp c86_27
                refine lv_aload_n hx hb dX1_readQ_91 rfl (lv_at hl 2 rfl) ?_
                refine lv_dup hx hb dX1_readQ_92 rfl ?_
                refine va_get (ci := 1) (v := .int (nI p)) (C := RX1) (T := TX1) (N := 5) hx hb hts hin1 hown hK hP 0 rfl rfl 4 (by decide) (hts (.fieldLink RX1 32 "UpAllRound$Reader" "place" "I") (List.mem_of_getElem? (i := 1) rfl)) (fun _ h9 => h9) rfl dX1_readQ_93 ?_
                refine lv_iconst (v := nI 1) hx hb dX1_readQ_96 (by decide) ?_
                refine lv_iadd hx hb dX1_readQ_97 ?_
                refine zrw (nI_add _ _) ?_
                refine va_put (ci := 1) (v := .int (nI (p + 1))) (ty := .int) (C := RX1) (T := TX1) (N := 5) hx hb hts hin1 tyX1 tyX1_ok nmX1 hown hK hP hD hS 0 rfl rfl 4 (by decide) (hts (.fieldLink RX1 32 "UpAllRound$Reader" "place" "I") (List.mem_of_getElem? (i := 1) rfl)) (fun _ h9 => h9) rfl (by decide +kernel) rfl rfl (Nat.le_of_ble_eq_true rfl) dX1_readQ_98 (fun H locs hP hD hS => ?_)
                have hP : va_P D vwCl [(h, .inr (1, [.ref hl9, .ref ht, .int (nI L), .ref (ad u), .int (nI (p + 1))])), (hl9, .inr (0, [.ref hc, .int (nI c), .ref hst])), (hc, .inl (cI, 60, .inl C)), (ht, .inl (cI, 60, .inl TB))] H := hP
                have hD : va_D AA [(h, .inr (1, [.ref hl9, .ref ht, .int (nI L), .ref (ad u), .int (nI (p + 1))])), (hl9, .inr (0, [.ref hc, .int (nI c), .ref hst])), (hc, .inl (cI, 60, .inl C)), (ht, .inl (cI, 60, .inl TB))] := hD
                refine lv_iload_n hx hb dX1_readQ_101 rfl (lv_at hl 1 rfl) ?_
                refine lv_bipush (v := nI 33) hx hb dX1_readQ_102 (by decide) ?_
                refine lv_icmp_ne (tgt := 117) hx hb dX1_readQ_104 (by decide) (fun c104_28 => ?_) (fun c104_28 => ?_)
                · have c104_28 : ¬ ((T p) = 33) := fun h9 => c104_28 ((nI_eq (a := T p) (b := 33) (by have h91 := hT p (by omega); omega) (by have h91 := hT p (by omega); omega)).mpr h9)
                  obtain ⟨b1, q1, t1, hR1⟩ : ∃ (b0 : Bool) (q0 : Nat) (t0 : zTks), zLS T L (zQ T L u 3) 5 (p + 1) = (b0, q0, t0) := ⟨_, _, _, rfl⟩
                  have hg1 := (zLS_gd (T := T) (zQ_gd (T := T) (L := L) (u := u) 3) 5) (p + 1) (by omega)
                  rw [hR1] at hg1
                  obtain ⟨hga1, hgb1, hgc1⟩ : (p + 1) ≤ q1 ∧ q1 ≤ L ∧ (b1 = true → (p + 1) < q1 ∧ t1.length ≤ q1 - (p + 1) ∧ zw1 t1) := hg1
                  refine lv_aload_n hx hb dX1_readQ_117 rfl (lv_at hl 2 rfl) ?_
                  refine lv_iconst (v := nI 0) hx hb dX1_readQ_118 (by decide) ?_
                  refine lv_iload_n hx hb dX1_readQ_119 rfl (lv_at hl 3 rfl) ?_
                  refine lv_iconst (v := nI 1) hx hb dX1_readQ_120 (by decide) ?_
                  refine lv_iadd hx hb dX1_readQ_121 ?_
                  refine zrw (nI_add _ _) ?_
                  refine zci (wr := []) (va_runV (As := [.int (nI 0), .int (nI 2)]) (rest := []) ⟨hx, hb, hml, hown, hts⟩ (c_X1_readLevel_0_2 l D cI cJ ad bd h hl9 ht hc hst L u T TB (p + 1) c C b1 q1 t1 (by first | rfl | assumption | omega) (by first | rfl | assumption | omega) (by first | rfl | assumption | omega) (by first | rfl | assumption | omega) (by omega) (by omega) hR1 H.size) (cwV 2 hts gX1_readQ_X1_readLevel rfl rfl rfl (by decide +kernel) ⟨Nat.le_of_ble_eq_true rfl, Nat.le_of_ble_eq_true rfl⟩) (zpVs hG hK hN hZ hP hD hS hA [0, 1, 2, 3] rfl (by decide) 0 rfl rfl rfl) rfl rfl hl.1 rfl (lv_room (Nat.le_of_ble_eq_true rfl)) dX1_readQ_122 ⟨Nat.zero_le _, Nat.zero_le _⟩) hP hD hS hA [0, 1, 2, 3] [] rfl rfl (by decide) (by decide) (fun r_31 w_30 H locs h_29 hP hD hS => ?_)
                  obtain ⟨c9_32, C9_33, hq9_34, hx9_35, rfl, rfl⟩ := h_29
                  have hP : va_P D vwCl [(h, .inr (1, [.ref hl9, .ref ht, .int (nI L), .ref (ad u), .int (nI q1)])), (hl9, .inr (0, [.ref hc, .int (nI c9_32), .ref hst])), (hc, .inl (cI, 60, .inl C9_33)), (ht, .inl (cI, 60, .inl TB))] H := hP
                  have hD : va_D AA [(h, .inr (1, [.ref hl9, .ref ht, .int (nI L), .ref (ad u), .int (nI q1)])), (hl9, .inr (0, [.ref hc, .int (nI c9_32), .ref hst])), (hc, .inl (cI, 60, .inl C9_33)), (ht, .inl (cI, 60, .inl TB))] := hD
                  refine lv_if_eq (tgt := 139) hx hb dX1_readQ_125 (by decide) (fun c125_36 => ?_) (fun c125_36 => ?_)
                  · have c125_36 := bI_0.mp c125_36
                    refine lv_iconst (v := nI 0) hx hb dX1_readQ_139 (by decide) ?_
                    exact hret hP hD hS dX1_readQ_140 rfl (by obtain ⟨e1, e2⟩ := zq_pf hR (by omega) (by assumption) hnx (by omega) hR1 (fun h9 => absurd h9.1 (by assumption)); subst e1; subst e2; exact ⟨_, _, hq9_34, fun h9 => (by cases h9), (bI_f (by decide)).symm, rfl⟩)
                  · have c125_36 := bI_n0.mp c125_36
                    obtain ⟨hgd1, hge1, hgf1⟩ := hgc1 c125_36
                    obtain ⟨he1, hE1⟩ := hx9_35 c125_36
                    subst he1; subst hE1
                    refine lv_aload_n hx hb dX1_readQ_128 rfl (lv_at hl 2 rfl) ?_
                    refine zci (wr := []) (va_runV (As := []) (rest := []) ⟨hx, hb, hml, hown, hts⟩ (c_X1_readClose l D cI cJ ad bd h hl9 ht hc hst L u T TB q1 ((c + t1.length)) (zapp C c t1) (by first | rfl | assumption | omega) (by first | rfl | assumption | omega) (by first | rfl | assumption | omega) (by first | rfl | assumption | omega) (by first | rfl | assumption | omega) H.size) (cwV 0 hts gX1_readQ_X1_readClose rfl rfl rfl (by decide +kernel) ⟨Nat.le_of_ble_eq_true rfl, Nat.le_of_ble_eq_true rfl⟩) (zpV hK hN hZ hP hD hS hA [0, 1, 2, 3] rfl (by decide) 0 rfl rfl rfl) rfl rfl hl.1 rfl (lv_room (Nat.le_of_ble_eq_true rfl)) dX1_readQ_129 ⟨Nat.zero_le _, Nat.zero_le _⟩) hP hD hS hA [0, 1, 2, 3] [] rfl rfl (by decide) (by decide) (fun r_39 w_38 H locs h_37 hP hD hS => ?_)
                    obtain ⟨rfl, rfl⟩ := h_37
                    have hP : va_P D vwCl [(h, .inr (1, [.ref hl9, .ref ht, .int (nI L), .ref (ad u), .int (nI ((if (q1 < L ∧ T q1 = 41) then q1 + 1 else q1)))])), (hl9, .inr (0, [.ref hc, .int (nI (((c + t1.length)))), .ref hst])), (hc, .inl (cI, 60, .inl ((zapp C c t1)))), (ht, .inl (cI, 60, .inl TB))] H := hP
                    have hD : va_D AA [(h, .inr (1, [.ref hl9, .ref ht, .int (nI L), .ref (ad u), .int (nI ((if (q1 < L ∧ T q1 = 41) then q1 + 1 else q1)))])), (hl9, .inr (0, [.ref hc, .int (nI (((c + t1.length)))), .ref hst])), (hc, .inl (cI, 60, .inl ((zapp C c t1)))), (ht, .inl (cI, 60, .inl TB))] := hD
                    refine lv_if_eq (tgt := 139) hx hb dX1_readQ_132 (by decide) (fun c132_40 => ?_) (fun c132_40 => ?_)
                    · have c132_40 := bI_0.mp c132_40
                      rw [if_neg c132_40] at hP hD
                      have hP : va_P D vwCl [(h, .inr (1, [.ref hl9, .ref ht, .int (nI L), .ref (ad u), .int (nI q1)])), (hl9, .inr (0, [.ref hc, .int (nI (((c + t1.length)))), .ref hst])), (hc, .inl (cI, 60, .inl ((zapp C c t1)))), (ht, .inl (cI, 60, .inl TB))] H := hP
                      have hD : va_D AA [(h, .inr (1, [.ref hl9, .ref ht, .int (nI L), .ref (ad u), .int (nI q1)])), (hl9, .inr (0, [.ref hc, .int (nI (((c + t1.length)))), .ref hst])), (hc, .inl (cI, 60, .inl ((zapp C c t1)))), (ht, .inl (cI, 60, .inl TB))] := hD
                      refine lv_iconst (v := nI 0) hx hb dX1_readQ_139 (by decide) ?_
                      exact hret hP hD hS dX1_readQ_140 rfl (by obtain ⟨e1, e2⟩ := zq_pf hR (by omega) (by assumption) hnx (by omega) hR1 (fun h9 => absurd h9.2 (by assumption)); subst e1; subst e2; exact ⟨_, _, by omega, fun h9 => (by cases h9), (bI_f (by decide)).symm, rfl⟩)
                    · have c132_40 := bI_n0.mp c132_40
                      rw [if_pos c132_40] at hP hD
                      have hP : va_P D vwCl [(h, .inr (1, [.ref hl9, .ref ht, .int (nI L), .ref (ad u), .int (nI (q1 + 1))])), (hl9, .inr (0, [.ref hc, .int (nI (((c + t1.length)))), .ref hst])), (hc, .inl (cI, 60, .inl ((zapp C c t1)))), (ht, .inl (cI, 60, .inl TB))] H := hP
                      have hD : va_D AA [(h, .inr (1, [.ref hl9, .ref ht, .int (nI L), .ref (ad u), .int (nI (q1 + 1))])), (hl9, .inr (0, [.ref hc, .int (nI (((c + t1.length)))), .ref hst])), (hc, .inl (cI, 60, .inl ((zapp C c t1)))), (ht, .inl (cI, 60, .inl TB))] := hD
                      refine lv_iconst (v := nI 1) hx hb dX1_readQ_135 (by decide) ?_
                      refine lv_goto (tgt := 140) hx hb dX1_readQ_136 (by decide) ?_
                      exact hret hP hD hS dX1_readQ_140 rfl (by obtain ⟨e1, e2, e3⟩ := zq_pt hR (by omega) (by assumption) hnx (by omega) hR1 (by assumption) (by assumption); subst e1; subst e2; subst e3; exact ⟨_, _, by omega, fun _ => ⟨rfl, rfl⟩, (bI_t rfl).symm, rfl⟩)
                · have c104_28 : (T p) = 33 := (nI_eq (a := T p) (b := 33) (by have h91 := hT p (by omega); omega) (by have h91 := hT p (by omega); omega)).mp c104_28
                  obtain ⟨b1, q1, t1, hR1⟩ : ∃ (b0 : Bool) (q0 : Nat) (t0 : zTks), zQ T L u 3 (p + 1) = (b0, q0, t0) := ⟨_, _, _, rfl⟩
                  have hg1 := (zQ_gd (T := T) (L := L) (u := u) 3) (p + 1) (by omega)
                  rw [hR1] at hg1
                  obtain ⟨hga1, hgb1, hgc1⟩ : (p + 1) ≤ q1 ∧ q1 ≤ L ∧ (b1 = true → (p + 1) < q1 ∧ t1.length ≤ q1 - (p + 1) ∧ zw1 t1) := hg1
                  refine lv_aload_n hx hb dX1_readQ_107 rfl (lv_at hl 2 rfl) ?_
                  refine lv_iload_n hx hb dX1_readQ_108 rfl (lv_at hl 3 rfl) ?_
                  refine lv_iconst (v := nI 1) hx hb dX1_readQ_109 (by decide) ?_
                  refine lv_iadd hx hb dX1_readQ_110 ?_
                  refine zrw (nI_add _ _) ?_
                  refine zci (wr := []) (va_runV (As := [.int (nI 2)]) (rest := []) ⟨hx, hb, hml, hown, hts⟩ (c_X1_readNot_2 l D cI cJ ad bd h hl9 ht hc hst L u T TB (p + 1) c C b1 q1 t1 (by first | rfl | assumption | omega) (by first | rfl | assumption | omega) (by first | rfl | assumption | omega) (by first | rfl | assumption | omega) (by omega) (by omega) hR1 H.size) (cwV 1 hts gX1_readQ_X1_readNot rfl rfl rfl (by decide +kernel) ⟨Nat.le_of_ble_eq_true rfl, Nat.le_of_ble_eq_true rfl⟩) (zpVs hG hK hN hZ hP hD hS hA [0, 1, 2, 3] rfl (by decide) 0 rfl rfl rfl) rfl rfl hl.1 rfl (lv_room (Nat.le_of_ble_eq_true rfl)) dX1_readQ_111 ⟨Nat.zero_le _, Nat.zero_le _⟩) hP hD hS hA [0, 1, 2, 3] [] rfl rfl (by decide) (by decide) (fun r_43 w_42 H locs h_41 hP hD hS => ?_)
                  obtain ⟨c9_44, C9_45, hq9_46, hx9_47, rfl, rfl⟩ := h_41
                  have hP : va_P D vwCl [(h, .inr (1, [.ref hl9, .ref ht, .int (nI L), .ref (ad u), .int (nI q1)])), (hl9, .inr (0, [.ref hc, .int (nI c9_44), .ref hst])), (hc, .inl (cI, 60, .inl C9_45)), (ht, .inl (cI, 60, .inl TB))] H := hP
                  have hD : va_D AA [(h, .inr (1, [.ref hl9, .ref ht, .int (nI L), .ref (ad u), .int (nI q1)])), (hl9, .inr (0, [.ref hc, .int (nI c9_44), .ref hst])), (hc, .inl (cI, 60, .inl C9_45)), (ht, .inl (cI, 60, .inl TB))] := hD
                  refine lv_goto (tgt := 140) hx hb dX1_readQ_114 (by decide) ?_
                  exact hret hP hD hS dX1_readQ_140 nar_bI (by obtain ⟨e1, e2, e3⟩ := zq_not hR (by omega) (by assumption) hnx (by omega) hR1; subst e1; subst e2; exact ⟨_, _, hq9_46, fun h9 => by rw [e3 h9]; exact hx9_47 h9, rfl, rfl⟩)
              · have c86_27 : ¬ (1 < 5) := fun h9 => c86_27 ((nI_ltI (a := 1) (b := 5) (by omega) (by omega)).mpr h9)
                exact absurd c86_27 (by omega)
        · exact absurd (by decide) c47_3
      · have hj3 := (znx_ch hnx).2
        refine zrw (show zbw (some j) = nI j from rfl) ?_
        refine lv_istore_n (lv' := [(3, .int (nI j)), (2, .int (nI (T p))), (0, .ref h), (1, .int (nI 1))]) hx hb dX1_readQ_45 rfl hl (by decide) rfl (fun ls hl => ?_)
        refine lv_iload_n hx hb dX1_readQ_46 rfl (lv_at hl 0 rfl) ?_
        refine lv_if_lt (tgt := 72) hx hb dX1_readQ_47 (by decide) (fun c47_48 => ?_) (fun c47_48 => ?_)
        · have c47_48 : j < 0 := (nI_ltI (a := j) (b := 0) (by omega) (by omega)).mp c47_48
          exact absurd c47_48 (by omega)
        · have c47_48 : ¬ (j < 0) := fun h9 => c47_48 ((nI_ltI (a := j) (b := 0) (by omega) (by omega)).mpr h9)
          refine lv_aload_n hx hb dX1_readQ_50 rfl (lv_at hl 2 rfl) ?_
          refine lv_dup hx hb dX1_readQ_51 rfl ?_
          refine va_get (ci := 1) (v := .int (nI p)) (C := RX1) (T := TX1) (N := 5) hx hb hts hin1 hown hK hP 0 rfl rfl 4 (by decide) (hts (.fieldLink RX1 32 "UpAllRound$Reader" "place" "I") (List.mem_of_getElem? (i := 1) rfl)) (fun _ h9 => h9) rfl dX1_readQ_52 ?_
          refine lv_iconst (v := nI 1) hx hb dX1_readQ_55 (by decide) ?_
          refine lv_iadd hx hb dX1_readQ_56 ?_
          refine zrw (nI_add _ _) ?_
          refine va_put (ci := 1) (v := .int (nI (p + 1))) (ty := .int) (C := RX1) (T := TX1) (N := 5) hx hb hts hin1 tyX1 tyX1_ok nmX1 hown hK hP hD hS 0 rfl rfl 4 (by decide) (hts (.fieldLink RX1 32 "UpAllRound$Reader" "place" "I") (List.mem_of_getElem? (i := 1) rfl)) (fun _ h9 => h9) rfl (by decide +kernel) rfl rfl (Nat.le_of_ble_eq_true rfl) dX1_readQ_57 (fun H locs hP hD hS => ?_)
          have hP : va_P D vwCl [(h, .inr (1, [.ref hl9, .ref ht, .int (nI L), .ref (ad u), .int (nI (p + 1))])), (hl9, .inr (0, [.ref hc, .int (nI c), .ref hst])), (hc, .inl (cI, 60, .inl C)), (ht, .inl (cI, 60, .inl TB))] H := hP
          have hD : va_D AA [(h, .inr (1, [.ref hl9, .ref ht, .int (nI L), .ref (ad u), .int (nI (p + 1))])), (hl9, .inr (0, [.ref hc, .int (nI c), .ref hst])), (hc, .inl (cI, 60, .inl C)), (ht, .inl (cI, 60, .inl TB))] := hD
          refine lv_aload_n hx hb dX1_readQ_60 rfl (lv_at hl 2 rfl) ?_
          refine va_get (ci := 1) (v := .ref hl9) (C := RX1) (T := TX1) (N := 5) hx hb hts hin1 hown hK hP 0 rfl rfl 0 (by decide) (hts (.fieldLink RX1 12 "UpAllRound$Reader" "law" "LUpAllRound$Law;") (List.mem_of_getElem? (i := 5) rfl)) (fun _ h9 => h9) rfl dX1_readQ_61 ?_
          refine lv_iconst (v := (-1)) hx hb dX1_readQ_64 (by decide) ?_
          refine lv_iload_n hx hb dX1_readQ_65 rfl (lv_at hl 0 rfl) ?_
          refine lv_isub hx hb dX1_readQ_66 ?_
          refine zcv (wr := [(h, .inr (1, [.ref hl9, .ref ht, .int (nI L), .ref (ad u), .int (nI (p + 1))])), (ht, .inl (cI, 60, .inl TB))]) (va_runVN (As := [.int (((-1)) - (nI j))]) (rest := []) ⟨hx, hb, hml, hown, hts⟩ (c_X0_add l D cI cJ hl9 hc hst c C (((-1)) - (nI j)) (by omega) H.size) ⟨va_cnB 1 hts gX1_readQ_X0_add_n61 rfl rfl rfl (hN (.methodLinkNest "UpAllRound$Reader" 61 yX0_add "UpAllRound") (List.mem_of_getElem? (i := 38) rfl)) (hts (.initialized RX0) (List.mem_of_getElem? (i := 15) rfl)) (by decide +kernel) ⟨Nat.le_of_ble_eq_true rfl, Nat.le_of_ble_eq_true rfl⟩, (hts (.instanceMethod yX0_add) (List.mem_of_getElem? (i := 14) rfl)), (hts (.selects RX0 yX0_add yX0_add) (List.mem_of_getElem? (i := 16) rfl))⟩ (zpV hK hN hZ hP hD hS hA [1, 2] rfl (by decide) 1 rfl rfl rfl) rfl rfl hl.1 rfl (lv_room (Nat.le_of_ble_eq_true rfl)) dX1_readQ_67 ⟨Nat.zero_le _, Nat.zero_le _⟩) hP hD hS hA [1, 2] [0, 3] rfl rfl (by decide) (by decide) (fun w_50 H locs h_49 hP hD hS => ?_)
          obtain rfl := h_49
          have hP : va_P D vwCl [(h, .inr (1, [.ref hl9, .ref ht, .int (nI L), .ref (ad u), .int (nI (p + 1))])), (ht, .inl (cI, 60, .inl TB)), (hl9, .inr (0, [.ref hc, .int (nI (c + 1)), .ref hst])), (hc, .inl (cI, 60, .inl (upd C c (((-1)) - (nI j)))))] H := hP
          have hD : va_D AA [(h, .inr (1, [.ref hl9, .ref ht, .int (nI L), .ref (ad u), .int (nI (p + 1))])), (ht, .inl (cI, 60, .inl TB)), (hl9, .inr (0, [.ref hc, .int (nI (c + 1)), .ref hst])), (hc, .inl (cI, 60, .inl (upd C c (((-1)) - (nI j)))))] := hD
          refine lv_iconst (v := nI 1) hx hb dX1_readQ_70 (by decide) ?_
          have hP := hP.sub (ws' := [(h, .inr (1, [.ref hl9, .ref ht, .int (nI L), .ref (ad u), .int (nI (p + 1))])), (hl9, .inr (0, [.ref hc, .int (nI (c + 1)), .ref hst])), (hc, .inl (cI, 60, .inl (upd C c (((-1)) - (nI j))))), (ht, .inl (cI, 60, .inl TB))]) [0, 2, 3, 1] rfl
          have hD := hD.sub (ws' := [(h, .inr (1, [.ref hl9, .ref ht, .int (nI L), .ref (ad u), .int (nI (p + 1))])), (hl9, .inr (0, [.ref hc, .int (nI (c + 1)), .ref hst])), (hc, .inl (cI, 60, .inl (upd C c (((-1)) - (nI j))))), (ht, .inl (cI, 60, .inl TB))]) [0, 2, 3, 1] (by decide) rfl
          exact hret hP hD hS dX1_readQ_71 rfl (by obtain ⟨e1, e2, e3⟩ := zq_n hR (by omega) (by assumption) hnx; subst e1; subst e2; subst e3; exact ⟨_, _, show c + 1 ≤ p + 1 from (by omega), fun _ => ⟨rfl, rfl⟩, (bI_t rfl).symm, rfl⟩)
    · have c27_2 := bI_n0.mp c27_2
      refine lv_aload_n hx hb dX1_readQ_30 rfl (lv_at hl 1 rfl) ?_
      refine zcv (wr := []) (va_runV (As := []) (rest := []) ⟨hx, hb, hml, hown, hts⟩ (c_X1_readNumber l D cI cJ ad bd h hl9 ht hc hst L u T TB p c C (by first | rfl | assumption | omega) (by first | rfl | assumption | omega) (by first | rfl | assumption | omega) (by first | rfl | assumption | omega) (by first | rfl | assumption | omega) (by omega) s.heap.size) (cwV 0 hts gX1_readQ_X1_readNumber rfl rfl rfl (by decide +kernel) ⟨Nat.le_of_ble_eq_true rfl, Nat.le_of_ble_eq_true rfl⟩) (zpV hK hN hZ hP hD hS hA [0, 1, 2, 3] rfl (by decide) 0 rfl rfl rfl) rfl rfl hl.1 rfl (lv_room (Nat.le_of_ble_eq_true rfl)) dX1_readQ_31 ⟨Nat.zero_le _, Nat.zero_le _⟩) hP hD hS hA [0, 1, 2, 3] [] rfl rfl (by decide) (by decide) (fun w_52 H locs h_51 hP hD hS => ?_)
      obtain rfl := h_51
      have hP : va_P D vwCl [(h, .inr (1, [.ref hl9, .ref ht, .int (nI L), .ref (ad u), .int (nI ((zNm T L 4 p 0).1))])), (hl9, .inr (0, [.ref hc, .int (nI ((c + 1))), .ref hst])), (hc, .inl (cI, 60, .inl (upd C c (nI (zNm T L 4 p 0).2)))), (ht, .inl (cI, 60, .inl TB))] H := hP
      have hD : va_D AA [(h, .inr (1, [.ref hl9, .ref ht, .int (nI L), .ref (ad u), .int (nI ((zNm T L 4 p 0).1))])), (hl9, .inr (0, [.ref hc, .int (nI ((c + 1))), .ref hst])), (hc, .inl (cI, 60, .inl (upd C c (nI (zNm T L 4 p 0).2)))), (ht, .inl (cI, 60, .inl TB))] := hD
      refine lv_iconst (v := nI 1) hx hb dX1_readQ_34 (by decide) ?_
      exact hret hP hD hS dX1_readQ_35 rfl (by obtain ⟨e1, e2, e3⟩ := zq_d hR (by omega) (by assumption); subst e1; subst e2; subst e3; exact ⟨_, _, show c + 1 ≤ _ from (by have h91 := zNm_4 (T := T) (L := L) (p := p) (by omega) (by assumption); omega), fun _ => ⟨rfl, rfl⟩, (bI_t rfl).symm, rfl⟩)
  · have c8_1 : ¬ (p < L) := fun h9 => c8_1 ((nI_ltI (a := p) (b := L) (by omega) (by omega)).mpr h9)
    refine lv_iconst (v := nI 0) hx hb dX1_readQ_11 (by decide) ?_
    exact hret hP hD hS dX1_readQ_12 rfl (by obtain ⟨e1, e2⟩ := zq_o hR (by omega); subst e1; subst e2; exact ⟨_, _, hcp, fun h9 => (by cases h9), (bI_f (by decide)).symm, rfl⟩)
set_option maxHeartbeats 4000000 in
set_option maxRecDepth 100000 in
theorem c_X1_readPart_4_1 (l : Launch) (D : va_G) (cI cJ : ClassId) (ad : Nat → Nat) (bd : Nat → Nat) (h : Nat) (hl9 : Nat) (ht : Nat) (hc : Nat) (hst : Nat) (L : Nat) (u : Nat) (T : Nat → Nat) (TB : Nat → Int32) (p : Nat) (c : Nat) (C : Nat → Int32) (b : Bool) (q : Nat) (tl : zTks) (hL : L ≤ 60) (hu1 : u ≤ 1) (hT : ∀ i, i < L → T i < 256) (htb : ∀ i, i < L → TB i = nI (T i)) (hp : p ≤ L) (hcp : c ≤ p) (hR : zLS T L (zQ T L u 4) 0 p = (b, q, tl)) : zTi ad bd l yX1_readPart wsX1_readPart ({ frames := 49, cells := 0, slots := 0, locals := 1146 } : Room) D [(cI, .int), (cJ, .array .int)] [.ref h, .int (nI 4), .int (nI 1)] [(h, .inr (1, [.ref hl9, .ref ht, .int (nI L), .ref (ad u), .int (nI p)])), (hl9, .inr (0, [.ref hc, .int (nI c), .ref hst])), (hc, .inl (cI, 60, .inl C)), (ht, .inl (cI, 60, .inl TB))] (fun r w => ∃ (c9 : Nat) (C9 : Nat → Int32), c9 ≤ q ∧ (b = true → c9 = c + tl.length ∧ C9 = zapp C c tl) ∧ r = bI (b = true) ∧ w = [(h, .inr (1, [.ref hl9, .ref ht, .int (nI L), .ref (ad u), .int (nI q)])), (hl9, .inr (0, [.ref hc, .int (nI c9), .ref hst])), (hc, .inl (cI, 60, .inl C9)), (ht, .inl (cI, 60, .inl TB))]) := by
  refine zTi.start (cc := cX1_readPart) (maxL := 3) (rt := .boolean) (by first | decide | decide +kernel) rfl (Nat.le_of_ble_eq_true rfl) ?_
  intro pg ev s mt args below meth cd ls AA QQ ⟨hx, hb, hml, hr, hlocks, hown, hts, hK, hN, hZ, hP, hD, hA, hS, hl⟩ hG hret
  have hown : s.vm.findClass RX1 = some mt.cls := hown
  have hl : lv_has ls 3 [(0, .ref h), (1, .int (nI 4)), (2, .int (nI 1))] := hl
  have hin0 : ∀ w ∈ wsX00, w ∈ wsX1_readPart := fun w h => List.mem_cons_of_mem _ (List.mem_append_right _ (h))
  have hin1 : ∀ w ∈ wsX10, w ∈ wsX1_readPart := fun w h => List.mem_cons_of_mem _ (List.mem_append_left _ (List.mem_append_right _ (h)))
  refine lv_iload_n hx hb dX1_readPart_0 rfl (lv_at hl 1 rfl) ?_
  refine lv_iconst (v := nI 1) hx hb dX1_readPart_1 (by decide) ?_
  refine lv_iadd hx hb dX1_readPart_2 ?_
  refine zrw (nI_add _ _) ?_
  refine lv_iconst (v := nI 5) hx hb dX1_readPart_3 (by decide) ?_
  refine lv_icmp_ge (tgt := 18) hx hb dX1_readPart_4 (by decide) (fun c4_1 => ?_) (fun c4_1 => ?_)
  · have c4_1 : 5 ≤ 5 := (nI_leI (a := 5) (b := 5) (by omega) (by omega)).mp c4_1
    refine lv_aload_n hx hb dX1_readPart_18 rfl (lv_at hl 0 rfl) ?_
    refine lv_iload_n hx hb dX1_readPart_19 rfl (lv_at hl 2 rfl) ?_
    refine zci (wr := []) (va_runV (As := [.int (nI 1)]) (rest := []) ⟨hx, hb, hml, hown, hts⟩ (c_X1_readQ_1 l D cI cJ ad bd h hl9 ht hc hst L u T TB p c C b q tl (by first | rfl | assumption | omega) (by first | rfl | assumption | omega) (by first | rfl | assumption | omega) (by first | rfl | assumption | omega) (by first | rfl | assumption | omega) (by first | rfl | assumption | omega) hR s.heap.size) (cwV 1 hts gX1_readPart_X1_readQ rfl rfl rfl (by decide +kernel) ⟨Nat.le_of_ble_eq_true rfl, Nat.le_of_ble_eq_true rfl⟩) (zpVs hG hK hN hZ hP hD hS hA [0, 1, 2, 3] rfl (by decide) 0 rfl rfl rfl) rfl rfl hl.1 rfl (lv_room (Nat.le_of_ble_eq_true rfl)) dX1_readPart_20 ⟨Nat.zero_le _, Nat.zero_le _⟩) hP hD hS hA [0, 1, 2, 3] [] rfl rfl (by decide) (by decide) (fun r_4 w_3 H locs h_2 hP hD hS => ?_)
    obtain ⟨c9_5, C9_6, hq9_7, hx9_8, rfl, rfl⟩ := h_2
    have hP : va_P D vwCl [(h, .inr (1, [.ref hl9, .ref ht, .int (nI L), .ref (ad u), .int (nI q)])), (hl9, .inr (0, [.ref hc, .int (nI c9_5), .ref hst])), (hc, .inl (cI, 60, .inl C9_6)), (ht, .inl (cI, 60, .inl TB))] H := hP
    have hD : va_D AA [(h, .inr (1, [.ref hl9, .ref ht, .int (nI L), .ref (ad u), .int (nI q)])), (hl9, .inr (0, [.ref hc, .int (nI c9_5), .ref hst])), (hc, .inl (cI, 60, .inl C9_6)), (ht, .inl (cI, 60, .inl TB))] := hD
    exact hret hP hD hS dX1_readPart_23 nar_bI (by exact ⟨_, _, hq9_7, hx9_8, rfl, rfl⟩)
  · have c4_1 : ¬ (5 ≤ 5) := fun h9 => c4_1 ((nI_leI (a := 5) (b := 5) (by omega) (by omega)).mpr h9)
    exact absurd c4_1 (by omega)
set_option maxHeartbeats 4000000 in
set_option maxRecDepth 100000 in
theorem c_X1_readLevel_4_1 (l : Launch) (D : va_G) (cI cJ : ClassId) (ad : Nat → Nat) (bd : Nat → Nat) (h : Nat) (hl9 : Nat) (ht : Nat) (hc : Nat) (hst : Nat) (L : Nat) (u : Nat) (T : Nat → Nat) (TB : Nat → Int32) (p : Nat) (c : Nat) (C : Nat → Int32) (b : Bool) (q : Nat) (tl : zTks) (hL : L ≤ 60) (hu1 : u ≤ 1) (hT : ∀ i, i < L → T i < 256) (htb : ∀ i, i < L → TB i = nI (T i)) (hp : p ≤ L) (hcp : c ≤ p) (hR : zLS T L (zQ T L u 4) 1 p = (b, q, tl)) : zTi ad bd l yX1_readLevel wsX1_readLevel ({ frames := 50, cells := 0, slots := 0, locals := 1168 } : Room) D [(cI, .int), (cJ, .array .int)] [.ref h, .int (nI 4), .int (nI 1)] [(h, .inr (1, [.ref hl9, .ref ht, .int (nI L), .ref (ad u), .int (nI p)])), (hl9, .inr (0, [.ref hc, .int (nI c), .ref hst])), (hc, .inl (cI, 60, .inl C)), (ht, .inl (cI, 60, .inl TB))] (fun r w => ∃ (c9 : Nat) (C9 : Nat → Int32), c9 ≤ q ∧ (b = true → c9 = c + tl.length ∧ C9 = zapp C c tl) ∧ r = bI (b = true) ∧ w = [(h, .inr (1, [.ref hl9, .ref ht, .int (nI L), .ref (ad u), .int (nI q)])), (hl9, .inr (0, [.ref hc, .int (nI c9), .ref hst])), (hc, .inl (cI, 60, .inl C9)), (ht, .inl (cI, 60, .inl TB))]) := by
  refine zTi.start (cc := cX1_readLevel) (maxL := 6) (rt := .boolean) (by first | decide | decide +kernel) rfl (Nat.le_of_ble_eq_true rfl) ?_
  intro pg ev s mt args below meth cd ls AA QQ ⟨hx, hb, hml, hr, hlocks, hown, hts, hK, hN, hZ, hP, hD, hA, hS, hl⟩ hG hret
  have hown : s.vm.findClass RX1 = some mt.cls := hown
  have hl : lv_has ls 6 [(0, .ref h), (1, .int (nI 4)), (2, .int (nI 1))] := hl
  have hin0 : ∀ w ∈ wsX00, w ∈ wsX1_readLevel := fun w h => List.mem_cons_of_mem _ (List.mem_append_right _ (h))
  have hin1 : ∀ w ∈ wsX10, w ∈ wsX1_readLevel := fun w h => List.mem_cons_of_mem _ (List.mem_append_left _ (List.mem_append_right _ (h)))
  have hR : zLv T L 4 (zLS T L (zQ T L u 4) 0) p = (b, q, tl) := hR
  obtain ⟨b1, q1, t1, hR1⟩ : ∃ (b0 : Bool) (q0 : Nat) (t0 : zTks), zLS T L (zQ T L u 4) 0 p = (b0, q0, t0) := ⟨_, _, _, rfl⟩
  have hg1 := (zLS_gd (T := T) (zQ_gd (T := T) (L := L) (u := u) 4) 0) p (by omega)
  rw [hR1] at hg1
  obtain ⟨hga1, hgb1, hgc1⟩ : p ≤ q1 ∧ q1 ≤ L ∧ (b1 = true → p < q1 ∧ t1.length ≤ q1 - p ∧ zw1 t1) := hg1
  refine lv_aload_n hx hb dX1_readLevel_0 rfl (lv_at hl 0 rfl) ?_
  refine lv_iload_n hx hb dX1_readLevel_1 rfl (lv_at hl 1 rfl) ?_
  refine lv_iload_n hx hb dX1_readLevel_2 rfl (lv_at hl 2 rfl) ?_
  refine zci (wr := []) (va_runV (As := [.int (nI 4), .int (nI 1)]) (rest := []) ⟨hx, hb, hml, hown, hts⟩ (c_X1_readPart_4_1 l D cI cJ ad bd h hl9 ht hc hst L u T TB p c C b1 q1 t1 (by first | rfl | assumption | omega) (by first | rfl | assumption | omega) (by first | rfl | assumption | omega) (by first | rfl | assumption | omega) (by first | rfl | assumption | omega) (by first | rfl | assumption | omega) hR1 s.heap.size) (cwV 2 hts gX1_readLevel_X1_readPart rfl rfl rfl (by decide +kernel) ⟨Nat.le_of_ble_eq_true rfl, Nat.le_of_ble_eq_true rfl⟩) (zpVs hG hK hN hZ hP hD hS hA [0, 1, 2, 3] rfl (by decide) 0 rfl rfl rfl) rfl rfl hl.1 rfl (lv_room (Nat.le_of_ble_eq_true rfl)) dX1_readLevel_3 ⟨Nat.zero_le _, Nat.zero_le _⟩) hP hD hS hA [0, 1, 2, 3] [] rfl rfl (by decide) (by decide) (fun r_3 w_2 H locs h_1 hP hD hS => ?_)
  obtain ⟨c9_4, C9_5, hq9_6, hx9_7, rfl, rfl⟩ := h_1
  have hP : va_P D vwCl [(h, .inr (1, [.ref hl9, .ref ht, .int (nI L), .ref (ad u), .int (nI q1)])), (hl9, .inr (0, [.ref hc, .int (nI c9_4), .ref hst])), (hc, .inl (cI, 60, .inl C9_5)), (ht, .inl (cI, 60, .inl TB))] H := hP
  have hD : va_D AA [(h, .inr (1, [.ref hl9, .ref ht, .int (nI L), .ref (ad u), .int (nI q1)])), (hl9, .inr (0, [.ref hc, .int (nI c9_4), .ref hst])), (hc, .inl (cI, 60, .inl C9_5)), (ht, .inl (cI, 60, .inl TB))] := hD
  refine lv_if_ne (tgt := 11) hx hb dX1_readLevel_6 (by decide) (fun c6_8 => ?_) (fun c6_8 => ?_)
  · have c6_8 := bI_n0.mp c6_8
    obtain ⟨hgd1, hge1, hgf1⟩ := hgc1 c6_8
    obtain ⟨he1, hE1⟩ := hx9_7 c6_8
    subst he1; subst hE1
    have hz := zLv_tt hR hR1 c6_8
    refine lv_iload_n hx hb dX1_readLevel_11 rfl (lv_at hl 1 rfl) ?_
    refine lv_iconst (v := nI 2) hx hb dX1_readLevel_12 (by decide) ?_
    refine lv_icmp_ne (tgt := 20) hx hb dX1_readLevel_13 (by decide) (fun c13_9 => ?_) (fun c13_9 => ?_)
    · have c13_9 : ¬ (4 = 2) := fun h9 => c13_9 ((nI_eq (a := 4) (b := 2) (by omega) (by omega)).mpr h9)
      refine lv_bipush (v := nI 60) hx hb dX1_readLevel_20 (by decide) ?_
      refine lv_istore_n (lv' := [(3, .int (nI 60)), (0, .ref h), (1, .int (nI 4)), (2, .int (nI 1))]) hx hb dX1_readLevel_22 rfl hl (by decide) rfl (fun ls hl => ?_)
      refine lv_iconst (v := nI 0) hx hb dX1_readLevel_23 (by decide) ?_
      refine lv_istore (lv' := [(4, .int (nI 0)), (3, .int (nI 60)), (0, .ref h), (1, .int (nI 4)), (2, .int (nI 1))]) hx hb dX1_readLevel_24 hl (by decide) rfl (fun ls hl => ?_)
      have L_26 : ∀ (fu : Nat) (f : Nat) (pv : Nat) (ta : zTks) (i : Nat) (hn : f < fu) (hz : zct ta (zLp T L 4 (zLS T L (zQ T L u 4) 0) f pv) = (b, q, tl)) (hf : L - pv < f) (hpv : pv ≤ L) (hca : c + ta.length ≤ pv) (hi1 : i + 1 ≤ pv), ∀ (ls : Array Slot), lv_has ls 6 [(0, .ref h), (1, .int (nI 4)), (2, .int (nI 1)), (3, .int (nI 60)), (4, .int (nI i))] → ∀ (H : Heap) (locs : List Loc), va_P D vwCl [(h, .inr (1, [.ref hl9, .ref ht, .int (nI L), .ref (ad u), .int (nI pv)])), (hl9, .inr (0, [.ref hc, .int (nI ((c + ta.length))), .ref hst])), (hc, .inl (cI, 60, .inl (zapp C c ta))), (ht, .inl (cI, 60, .inl TB))] H → va_D AA [(h, .inr (1, [.ref hl9, .ref ht, .int (nI L), .ref (ad u), .int (nI pv)])), (hl9, .inr (0, [.ref hc, .int (nI ((c + ta.length))), .ref hst])), (hc, .inl (cI, 60, .inl (zapp C c ta))), (ht, .inl (cI, 60, .inl TB))] → va_S AA s.heap H locs → W pg l ev ({ frames := 50, cells := 0, slots := 0, locals := 1168 } : Room) s mt args below meth cd H locs 0 0 QQ (F0 mt 26 ls []) := by
        intro fu
        induction fu with
        | zero =>
          intro  f pv ta i  hn
          exact absurd hn (by omega)
        | succ fu ih_26 =>
          intro  f pv ta i  hn hz hf hpv hca hi1 ls hl H locs hP hD hS
          obtain ⟨f1, rfl⟩ : ∃ f1, f = f1 + 1 := ⟨f - 1, by omega⟩
          refine lv_iload hx hb dX1_readLevel_26 (lv_at hl 4 rfl) ?_
          refine lv_iload_n hx hb dX1_readLevel_28 rfl (lv_at hl 3 rfl) ?_
          refine lv_icmp_ge (tgt := 107) hx hb dX1_readLevel_29 (by decide) (fun c29_10 => ?_) (fun c29_10 => ?_)
          · have c29_10 : 60 ≤ i := (nI_leI (a := 60) (b := i) (by omega) (by omega)).mp c29_10
            exact absurd c29_10 (by omega)
          · have c29_10 : ¬ (60 ≤ i) := fun h9 => c29_10 ((nI_leI (a := 60) (b := i) (by omega) (by omega)).mpr h9)
            refine lv_aload_n hx hb dX1_readLevel_32 rfl (lv_at hl 0 rfl) ?_
            refine va_get (ci := 1) (v := .int (nI pv)) (C := RX1) (T := TX1) (N := 5) hx hb hts hin1 hown hK hP 0 rfl rfl 4 (by decide) (hts (.fieldLink RX1 32 "UpAllRound$Reader" "place" "I") (List.mem_of_getElem? (i := 1) rfl)) (fun _ h9 => h9) rfl dX1_readLevel_33 ?_
            refine lv_aload_n hx hb dX1_readLevel_36 rfl (lv_at hl 0 rfl) ?_
            refine va_get (ci := 1) (v := .int (nI L)) (C := RX1) (T := TX1) (N := 5) hx hb hts hin1 hown hK hP 0 rfl rfl 2 (by decide) (hts (.fieldLink RX1 22 "UpAllRound$Reader" "length" "I") (List.mem_of_getElem? (i := 2) rfl)) (fun _ h9 => h9) rfl dX1_readLevel_37 ?_
            refine lv_icmp_ge (tgt := 107) hx hb dX1_readLevel_40 (by decide) (fun c40_11 => ?_) (fun c40_11 => ?_)
            · have c40_11 : L ≤ pv := (nI_leI (a := L) (b := pv) (by omega) (by omega)).mp c40_11
              refine lv_iconst (v := nI 1) hx hb dX1_readLevel_107 (by decide) ?_
              exact hret hP hD hS dX1_readLevel_108 rfl (by obtain ⟨e1, e2, e3⟩ := zLe (f := f1) hz (by omega); subst e1; subst e2; subst e3; exact ⟨_, _, by omega, fun _ => ⟨rfl, rfl⟩, (bI_t rfl).symm, rfl⟩)
            · have c40_11 : ¬ (L ≤ pv) := fun h9 => c40_11 ((nI_leI (a := L) (b := pv) (by omega) (by omega)).mpr h9)
              refine lv_aload_n hx hb dX1_readLevel_43 rfl (lv_at hl 0 rfl) ?_
              refine va_get (ci := 1) (v := .ref ht) (C := RX1) (T := TX1) (N := 5) hx hb hts hin1 hown hK hP 0 rfl rfl 1 (by decide) (hts (.fieldLink RX1 18 "UpAllRound$Reader" "tape" "[I") (List.mem_of_getElem? (i := 3) rfl)) (fun _ h9 => h9) rfl dX1_readLevel_44 ?_
              refine lv_aload_n hx hb dX1_readLevel_47 rfl (lv_at hl 0 rfl) ?_
              refine va_get (ci := 1) (v := .int (nI pv)) (C := RX1) (T := TX1) (N := 5) hx hb hts hin1 hown hK hP 0 rfl rfl 4 (by decide) (hts (.fieldLink RX1 32 "UpAllRound$Reader" "place" "I") (List.mem_of_getElem? (i := 1) rfl)) (fun _ h9 => h9) rfl dX1_readLevel_48 ?_
              refine zald (t := pv) hx hb hK hP 3 rfl (by omega) (by decide) dX1_readLevel_51 ?_
              refine zrw (htb pv (by omega)) ?_
              refine zcsE (va_runS (As := [.int (nI (T pv))]) (rest := []) ⟨hx, hb, hml, hown, hts⟩ (c_X1_levelOf l D cI cJ (T pv) (hT pv (by omega)) H.size) (va_cwS 1 hts gX1_readLevel_X1_levelOf rfl rfl rfl (by decide +kernel) ⟨Nat.le_of_ble_eq_true rfl, Nat.le_of_ble_eq_true rfl⟩) (zpS hK hN hZ hP hD hS hA [] rfl (by decide)) rfl rfl hl.1 rfl (lv_room (Nat.le_of_ble_eq_true rfl)) dX1_readLevel_52 ⟨Nat.zero_le _, Nat.zero_le _⟩) ?_
              refine lv_iload_n hx hb dX1_readLevel_55 rfl (lv_at hl 1 rfl) ?_
              refine lv_icmp_ne (tgt := 107) hx hb dX1_readLevel_56 (by decide) (fun c56_12 => ?_) (fun c56_12 => ?_)
              · have c56_12 : ¬ (((zlv (T pv))) = 4) := fun h9 => c56_12 ((nI_eq (a := (zlv (T pv))) (b := 4) (by have h91 := zlv_le (T pv); omega) (by have h91 := zlv_le (T pv); omega)).mpr h9)
                refine lv_iconst (v := nI 1) hx hb dX1_readLevel_107 (by decide) ?_
                exact hret hP hD hS dX1_readLevel_108 rfl (by obtain ⟨e1, e2, e3⟩ := zLe (f := f1) hz (by omega); subst e1; subst e2; subst e3; exact ⟨_, _, by omega, fun _ => ⟨rfl, rfl⟩, (bI_t rfl).symm, rfl⟩)
              · have c56_12 : ((zlv (T pv))) = 4 := (nI_eq (a := (zlv (T pv))) (b := 4) (by have h91 := zlv_le (T pv); omega) (by have h91 := zlv_le (T pv); omega)).mp c56_12
                refine lv_aload_n hx hb dX1_readLevel_59 rfl (lv_at hl 0 rfl) ?_
                refine va_get (ci := 1) (v := .ref ht) (C := RX1) (T := TX1) (N := 5) hx hb hts hin1 hown hK hP 0 rfl rfl 1 (by decide) (hts (.fieldLink RX1 18 "UpAllRound$Reader" "tape" "[I") (List.mem_of_getElem? (i := 3) rfl)) (fun _ h9 => h9) rfl dX1_readLevel_60 ?_
                refine lv_aload_n hx hb dX1_readLevel_63 rfl (lv_at hl 0 rfl) ?_
                refine va_get (ci := 1) (v := .int (nI pv)) (C := RX1) (T := TX1) (N := 5) hx hb hts hin1 hown hK hP 0 rfl rfl 4 (by decide) (hts (.fieldLink RX1 32 "UpAllRound$Reader" "place" "I") (List.mem_of_getElem? (i := 1) rfl)) (fun _ h9 => h9) rfl dX1_readLevel_64 ?_
                refine zald (t := pv) hx hb hK hP 3 rfl (by omega) (by decide) dX1_readLevel_67 ?_
                refine zrw (htb pv (by omega)) ?_
                refine lv_istore (lv' := [(5, .int (nI (T pv))), (0, .ref h), (1, .int (nI 4)), (2, .int (nI 1)), (3, .int (nI 60)), (4, .int (nI i))]) hx hb dX1_readLevel_68 hl (by decide) rfl (fun ls hl => ?_)
                refine lv_aload_n hx hb dX1_readLevel_70 rfl (lv_at hl 1 rfl) ?_
                refine lv_dup hx hb dX1_readLevel_71 rfl ?_
                refine va_get (ci := 1) (v := .int (nI pv)) (C := RX1) (T := TX1) (N := 5) hx hb hts hin1 hown hK hP 0 rfl rfl 4 (by decide) (hts (.fieldLink RX1 32 "UpAllRound$Reader" "place" "I") (List.mem_of_getElem? (i := 1) rfl)) (fun _ h9 => h9) rfl dX1_readLevel_72 ?_
                refine lv_iconst (v := nI 1) hx hb dX1_readLevel_75 (by decide) ?_
                refine lv_iadd hx hb dX1_readLevel_76 ?_
                refine zrw (nI_add _ _) ?_
                refine va_put (ci := 1) (v := .int (nI (pv + 1))) (ty := .int) (C := RX1) (T := TX1) (N := 5) hx hb hts hin1 tyX1 tyX1_ok nmX1 hown hK hP hD hS 0 rfl rfl 4 (by decide) (hts (.fieldLink RX1 32 "UpAllRound$Reader" "place" "I") (List.mem_of_getElem? (i := 1) rfl)) (fun _ h9 => h9) rfl (by decide +kernel) rfl rfl (Nat.le_of_ble_eq_true rfl) dX1_readLevel_77 (fun H locs hP hD hS => ?_)
                have hP : va_P D vwCl [(h, .inr (1, [.ref hl9, .ref ht, .int (nI L), .ref (ad u), .int (nI (pv + 1))])), (hl9, .inr (0, [.ref hc, .int (nI ((c + ta.length))), .ref hst])), (hc, .inl (cI, 60, .inl (zapp C c ta))), (ht, .inl (cI, 60, .inl TB))] H := hP
                have hD : va_D AA [(h, .inr (1, [.ref hl9, .ref ht, .int (nI L), .ref (ad u), .int (nI (pv + 1))])), (hl9, .inr (0, [.ref hc, .int (nI ((c + ta.length))), .ref hst])), (hc, .inl (cI, 60, .inl (zapp C c ta))), (ht, .inl (cI, 60, .inl TB))] := hD
                obtain ⟨b2, q2, t2, hR2⟩ : ∃ (b0 : Bool) (q0 : Nat) (t0 : zTks), zLS T L (zQ T L u 4) 0 (pv + 1) = (b0, q0, t0) := ⟨_, _, _, rfl⟩
                have hg2 := (zLS_gd (T := T) (zQ_gd (T := T) (L := L) (u := u) 4) 0) (pv + 1) (by omega)
                rw [hR2] at hg2
                obtain ⟨hga2, hgb2, hgc2⟩ : (pv + 1) ≤ q2 ∧ q2 ≤ L ∧ (b2 = true → (pv + 1) < q2 ∧ t2.length ≤ q2 - (pv + 1) ∧ zw1 t2) := hg2
                refine lv_aload_n hx hb dX1_readLevel_80 rfl (lv_at hl 1 rfl) ?_
                refine lv_iload_n hx hb dX1_readLevel_81 rfl (lv_at hl 2 rfl) ?_
                refine lv_iload_n hx hb dX1_readLevel_82 rfl (lv_at hl 3 rfl) ?_
                refine zci (wr := []) (va_runV (As := [.int (nI 4), .int (nI 1)]) (rest := []) ⟨hx, hb, hml, hown, hts⟩ (c_X1_readPart_4_1 l D cI cJ ad bd h hl9 ht hc hst L u T TB (pv + 1) ((c + ta.length)) (zapp C c ta) b2 q2 t2 (by first | rfl | assumption | omega) (by first | rfl | assumption | omega) (by first | rfl | assumption | omega) (by first | rfl | assumption | omega) (by omega) (by omega) hR2 H.size) (cwV 2 hts gX1_readLevel_X1_readPart rfl rfl rfl (by decide +kernel) ⟨Nat.le_of_ble_eq_true rfl, Nat.le_of_ble_eq_true rfl⟩) (zpVs hG hK hN hZ hP hD hS hA [0, 1, 2, 3] rfl (by decide) 0 rfl rfl rfl) rfl rfl hl.1 rfl (lv_room (Nat.le_of_ble_eq_true rfl)) dX1_readLevel_83 ⟨Nat.zero_le _, Nat.zero_le _⟩) hP hD hS hA [0, 1, 2, 3] [] rfl rfl (by decide) (by decide) (fun r_15 w_14 H locs h_13 hP hD hS => ?_)
                obtain ⟨c9_16, C9_17, hq9_18, hx9_19, rfl, rfl⟩ := h_13
                have hP : va_P D vwCl [(h, .inr (1, [.ref hl9, .ref ht, .int (nI L), .ref (ad u), .int (nI q2)])), (hl9, .inr (0, [.ref hc, .int (nI c9_16), .ref hst])), (hc, .inl (cI, 60, .inl C9_17)), (ht, .inl (cI, 60, .inl TB))] H := hP
                have hD : va_D AA [(h, .inr (1, [.ref hl9, .ref ht, .int (nI L), .ref (ad u), .int (nI q2)])), (hl9, .inr (0, [.ref hc, .int (nI c9_16), .ref hst])), (hc, .inl (cI, 60, .inl C9_17)), (ht, .inl (cI, 60, .inl TB))] := hD
                refine lv_if_ne (tgt := 91) hx hb dX1_readLevel_86 (by decide) (fun c86_20 => ?_) (fun c86_20 => ?_)
                · have c86_20 := bI_n0.mp c86_20
                  obtain ⟨hgd2, hge2, hgf2⟩ := hgc2 c86_20
                  obtain ⟨he2, hE2⟩ := hx9_19 c86_20
                  subst he2; subst hE2
                  refine lv_aload_n hx hb dX1_readLevel_91 rfl (lv_at hl 1 rfl) ?_
                  refine va_get (ci := 1) (v := .ref hl9) (C := RX1) (T := TX1) (N := 5) hx hb hts hin1 hown hK hP 0 rfl rfl 0 (by decide) (hts (.fieldLink RX1 12 "UpAllRound$Reader" "law" "LUpAllRound$Law;") (List.mem_of_getElem? (i := 4) rfl)) (fun _ h9 => h9) rfl dX1_readLevel_92 ?_
                  refine lv_iload hx hb dX1_readLevel_95 (lv_at hl 0 rfl) ?_
                  refine lv_ineg hx hb dX1_readLevel_97 ?_
                  refine zcv (wr := [(h, .inr (1, [.ref hl9, .ref ht, .int (nI L), .ref (ad u), .int (nI q2)])), (ht, .inl (cI, 60, .inl TB))]) (va_runVN (As := [.int (-(nI (T pv)))]) (rest := []) ⟨hx, hb, hml, hown, hts⟩ (c_X0_add l D cI cJ hl9 hc hst ((c + ta.length + t2.length)) (zapp (zapp C c ta) (c + ta.length) t2) (-(nI (T pv))) (by omega) H.size) ⟨va_cnB 1 hts gX1_readLevel_X0_add_n61 rfl rfl rfl (hN (.methodLinkNest "UpAllRound$Reader" 61 yX0_add "UpAllRound") (List.mem_of_getElem? (i := 38) rfl)) (hts (.initialized RX0) (List.mem_of_getElem? (i := 13) rfl)) (by decide +kernel) ⟨Nat.le_of_ble_eq_true rfl, Nat.le_of_ble_eq_true rfl⟩, (hts (.instanceMethod yX0_add) (List.mem_of_getElem? (i := 12) rfl)), (hts (.selects RX0 yX0_add yX0_add) (List.mem_of_getElem? (i := 14) rfl))⟩ (zpV hK hN hZ hP hD hS hA [1, 2] rfl (by decide) 1 rfl rfl rfl) rfl rfl hl.1 rfl (lv_room (Nat.le_of_ble_eq_true rfl)) dX1_readLevel_98 ⟨Nat.zero_le _, Nat.zero_le _⟩) hP hD hS hA [1, 2] [0, 3] rfl rfl (by decide) (by decide) (fun w_22 H locs h_21 hP hD hS => ?_)
                  obtain rfl := h_21
                  have hP : va_P D vwCl [(h, .inr (1, [.ref hl9, .ref ht, .int (nI L), .ref (ad u), .int (nI q2)])), (ht, .inl (cI, 60, .inl TB)), (hl9, .inr (0, [.ref hc, .int (nI (((c + ta.length + t2.length)) + 1)), .ref hst])), (hc, .inl (cI, 60, .inl (upd (zapp (zapp C c ta) (c + ta.length) t2) ((c + ta.length + t2.length)) (-(nI (T pv))))))] H := hP
                  have hD : va_D AA [(h, .inr (1, [.ref hl9, .ref ht, .int (nI L), .ref (ad u), .int (nI q2)])), (ht, .inl (cI, 60, .inl TB)), (hl9, .inr (0, [.ref hc, .int (nI (((c + ta.length + t2.length)) + 1)), .ref hst])), (hc, .inl (cI, 60, .inl (upd (zapp (zapp C c ta) (c + ta.length) t2) ((c + ta.length + t2.length)) (-(nI (T pv))))))] := hD
                  refine lv_iinc (v := nI (i + 1)) (lv' := [(4, .int (nI (i + 1))), (5, .int (nI (T pv))), (0, .ref h), (1, .int (nI 4)), (2, .int (nI 1)), (3, .int (nI 60))]) hx hb dX1_readLevel_101 hl (k := 5) rfl (nI_add _ _) (by decide) rfl (fun ls hl => ?_)
                  refine lv_goto (tgt := 26) hx hb dX1_readLevel_104 (by decide) ?_
                  rw [show -(nI (T pv)) = zcode (3, T pv) from rfl, zapp1, zlen1 (t := (3, T pv))] at hP hD
                  exact ih_26   f1 q2 ((ta ++ (t2 ++ [(3, T pv)]))) ((i + 1)) (by omega) (zLt (by decide) hz ⟨by omega, by omega⟩ hR2 (by assumption)) (by omega) (by omega) (by rw [← zlen1]; omega) (by omega) ls (lv_sub hl [2, 3, 4, 5, 0] rfl) H locs (hP.sub [0, 2, 3, 1] rfl) (hD.sub [0, 2, 3, 1] (by decide) rfl) hS
                · have c86_20 := bI_0.mp c86_20
                  refine lv_iconst (v := nI 0) hx hb dX1_readLevel_89 (by decide) ?_
                  exact hret hP hD hS dX1_readLevel_90 rfl (by obtain ⟨e1, e2⟩ := zLf hz ⟨by omega, by omega⟩ hR2 (by assumption); subst e1; subst e2; exact ⟨_, _, hq9_18, fun h9 => (by cases h9), (bI_f (by decide)).symm, rfl⟩)
      exact L_26 62  61 q1 t1 0 (by omega) hz (by omega) (by omega) (by omega) (by omega) ls (lv_sub hl [2, 3, 4, 1, 0] rfl) _ _ hP hD hS
    · have c13_9 : 4 = 2 := (nI_eq (a := 4) (b := 2) (by omega) (by omega)).mp c13_9
      exact absurd c13_9 (by omega)
  · have c6_8 := bI_0.mp c6_8
    refine lv_iconst (v := nI 0) hx hb dX1_readLevel_9 (by decide) ?_
    exact hret hP hD hS dX1_readLevel_10 rfl (by obtain ⟨e1, e2⟩ := zLv_ff hR hR1 (by assumption); subst e1; subst e2; exact ⟨_, _, hq9_6, fun h9 => (by cases h9), (bI_f (by decide)).symm, rfl⟩)
set_option maxHeartbeats 4000000 in
set_option maxRecDepth 100000 in
theorem c_X1_readPart_3_1 (l : Launch) (D : va_G) (cI cJ : ClassId) (ad : Nat → Nat) (bd : Nat → Nat) (h : Nat) (hl9 : Nat) (ht : Nat) (hc : Nat) (hst : Nat) (L : Nat) (u : Nat) (T : Nat → Nat) (TB : Nat → Int32) (p : Nat) (c : Nat) (C : Nat → Int32) (b : Bool) (q : Nat) (tl : zTks) (hL : L ≤ 60) (hu1 : u ≤ 1) (hT : ∀ i, i < L → T i < 256) (htb : ∀ i, i < L → TB i = nI (T i)) (hp : p ≤ L) (hcp : c ≤ p) (hR : zLS T L (zQ T L u 4) 1 p = (b, q, tl)) : zTi ad bd l yX1_readPart wsX1_readPart ({ frames := 51, cells := 0, slots := 0, locals := 1193 } : Room) D [(cI, .int), (cJ, .array .int)] [.ref h, .int (nI 3), .int (nI 1)] [(h, .inr (1, [.ref hl9, .ref ht, .int (nI L), .ref (ad u), .int (nI p)])), (hl9, .inr (0, [.ref hc, .int (nI c), .ref hst])), (hc, .inl (cI, 60, .inl C)), (ht, .inl (cI, 60, .inl TB))] (fun r w => ∃ (c9 : Nat) (C9 : Nat → Int32), c9 ≤ q ∧ (b = true → c9 = c + tl.length ∧ C9 = zapp C c tl) ∧ r = bI (b = true) ∧ w = [(h, .inr (1, [.ref hl9, .ref ht, .int (nI L), .ref (ad u), .int (nI q)])), (hl9, .inr (0, [.ref hc, .int (nI c9), .ref hst])), (hc, .inl (cI, 60, .inl C9)), (ht, .inl (cI, 60, .inl TB))]) := by
  refine zTi.start (cc := cX1_readPart) (maxL := 3) (rt := .boolean) (by first | decide | decide +kernel) rfl (Nat.le_of_ble_eq_true rfl) ?_
  intro pg ev s mt args below meth cd ls AA QQ ⟨hx, hb, hml, hr, hlocks, hown, hts, hK, hN, hZ, hP, hD, hA, hS, hl⟩ hG hret
  have hown : s.vm.findClass RX1 = some mt.cls := hown
  have hl : lv_has ls 3 [(0, .ref h), (1, .int (nI 3)), (2, .int (nI 1))] := hl
  have hin0 : ∀ w ∈ wsX00, w ∈ wsX1_readPart := fun w h => List.mem_cons_of_mem _ (List.mem_append_right _ (h))
  have hin1 : ∀ w ∈ wsX10, w ∈ wsX1_readPart := fun w h => List.mem_cons_of_mem _ (List.mem_append_left _ (List.mem_append_right _ (h)))
  refine lv_iload_n hx hb dX1_readPart_0 rfl (lv_at hl 1 rfl) ?_
  refine lv_iconst (v := nI 1) hx hb dX1_readPart_1 (by decide) ?_
  refine lv_iadd hx hb dX1_readPart_2 ?_
  refine zrw (nI_add _ _) ?_
  refine lv_iconst (v := nI 5) hx hb dX1_readPart_3 (by decide) ?_
  refine lv_icmp_ge (tgt := 18) hx hb dX1_readPart_4 (by decide) (fun c4_1 => ?_) (fun c4_1 => ?_)
  · have c4_1 : 5 ≤ 4 := (nI_leI (a := 5) (b := 4) (by omega) (by omega)).mp c4_1
    exact absurd c4_1 (by omega)
  · have c4_1 : ¬ (5 ≤ 4) := fun h9 => c4_1 ((nI_leI (a := 5) (b := 4) (by omega) (by omega)).mpr h9)
    refine lv_aload_n hx hb dX1_readPart_7 rfl (lv_at hl 0 rfl) ?_
    refine lv_iload_n hx hb dX1_readPart_8 rfl (lv_at hl 1 rfl) ?_
    refine lv_iconst (v := nI 1) hx hb dX1_readPart_9 (by decide) ?_
    refine lv_iadd hx hb dX1_readPart_10 ?_
    refine zrw (nI_add _ _) ?_
    refine lv_iload_n hx hb dX1_readPart_11 rfl (lv_at hl 2 rfl) ?_
    refine zci (wr := []) (va_runV (As := [.int (nI 4), .int (nI 1)]) (rest := []) ⟨hx, hb, hml, hown, hts⟩ (c_X1_readLevel_4_1 l D cI cJ ad bd h hl9 ht hc hst L u T TB p c C b q tl (by first | rfl | assumption | omega) (by first | rfl | assumption | omega) (by first | rfl | assumption | omega) (by first | rfl | assumption | omega) (by first | rfl | assumption | omega) (by first | rfl | assumption | omega) hR s.heap.size) (cwV 2 hts gX1_readPart_X1_readLevel rfl rfl rfl (by decide +kernel) ⟨Nat.le_of_ble_eq_true rfl, Nat.le_of_ble_eq_true rfl⟩) (zpVs hG hK hN hZ hP hD hS hA [0, 1, 2, 3] rfl (by decide) 0 rfl rfl rfl) rfl rfl hl.1 rfl (lv_room (Nat.le_of_ble_eq_true rfl)) dX1_readPart_12 ⟨Nat.zero_le _, Nat.zero_le _⟩) hP hD hS hA [0, 1, 2, 3] [] rfl rfl (by decide) (by decide) (fun r_4 w_3 H locs h_2 hP hD hS => ?_)
    obtain ⟨c9_5, C9_6, hq9_7, hx9_8, rfl, rfl⟩ := h_2
    have hP : va_P D vwCl [(h, .inr (1, [.ref hl9, .ref ht, .int (nI L), .ref (ad u), .int (nI q)])), (hl9, .inr (0, [.ref hc, .int (nI c9_5), .ref hst])), (hc, .inl (cI, 60, .inl C9_6)), (ht, .inl (cI, 60, .inl TB))] H := hP
    have hD : va_D AA [(h, .inr (1, [.ref hl9, .ref ht, .int (nI L), .ref (ad u), .int (nI q)])), (hl9, .inr (0, [.ref hc, .int (nI c9_5), .ref hst])), (hc, .inl (cI, 60, .inl C9_6)), (ht, .inl (cI, 60, .inl TB))] := hD
    refine lv_goto (tgt := 23) hx hb dX1_readPart_15 (by decide) ?_
    exact hret hP hD hS dX1_readPart_23 nar_bI (by exact ⟨_, _, hq9_7, hx9_8, rfl, rfl⟩)
set_option maxHeartbeats 4000000 in
set_option maxRecDepth 100000 in
theorem c_X1_readLevel_3_1 (l : Launch) (D : va_G) (cI cJ : ClassId) (ad : Nat → Nat) (bd : Nat → Nat) (h : Nat) (hl9 : Nat) (ht : Nat) (hc : Nat) (hst : Nat) (L : Nat) (u : Nat) (T : Nat → Nat) (TB : Nat → Int32) (p : Nat) (c : Nat) (C : Nat → Int32) (b : Bool) (q : Nat) (tl : zTks) (hL : L ≤ 60) (hu1 : u ≤ 1) (hT : ∀ i, i < L → T i < 256) (htb : ∀ i, i < L → TB i = nI (T i)) (hp : p ≤ L) (hcp : c ≤ p) (hR : zLS T L (zQ T L u 4) 2 p = (b, q, tl)) : zTi ad bd l yX1_readLevel wsX1_readLevel ({ frames := 52, cells := 0, slots := 0, locals := 1215 } : Room) D [(cI, .int), (cJ, .array .int)] [.ref h, .int (nI 3), .int (nI 1)] [(h, .inr (1, [.ref hl9, .ref ht, .int (nI L), .ref (ad u), .int (nI p)])), (hl9, .inr (0, [.ref hc, .int (nI c), .ref hst])), (hc, .inl (cI, 60, .inl C)), (ht, .inl (cI, 60, .inl TB))] (fun r w => ∃ (c9 : Nat) (C9 : Nat → Int32), c9 ≤ q ∧ (b = true → c9 = c + tl.length ∧ C9 = zapp C c tl) ∧ r = bI (b = true) ∧ w = [(h, .inr (1, [.ref hl9, .ref ht, .int (nI L), .ref (ad u), .int (nI q)])), (hl9, .inr (0, [.ref hc, .int (nI c9), .ref hst])), (hc, .inl (cI, 60, .inl C9)), (ht, .inl (cI, 60, .inl TB))]) := by
  refine zTi.start (cc := cX1_readLevel) (maxL := 6) (rt := .boolean) (by first | decide | decide +kernel) rfl (Nat.le_of_ble_eq_true rfl) ?_
  intro pg ev s mt args below meth cd ls AA QQ ⟨hx, hb, hml, hr, hlocks, hown, hts, hK, hN, hZ, hP, hD, hA, hS, hl⟩ hG hret
  have hown : s.vm.findClass RX1 = some mt.cls := hown
  have hl : lv_has ls 6 [(0, .ref h), (1, .int (nI 3)), (2, .int (nI 1))] := hl
  have hin0 : ∀ w ∈ wsX00, w ∈ wsX1_readLevel := fun w h => List.mem_cons_of_mem _ (List.mem_append_right _ (h))
  have hin1 : ∀ w ∈ wsX10, w ∈ wsX1_readLevel := fun w h => List.mem_cons_of_mem _ (List.mem_append_left _ (List.mem_append_right _ (h)))
  have hR : zLv T L 3 (zLS T L (zQ T L u 4) 1) p = (b, q, tl) := hR
  obtain ⟨b1, q1, t1, hR1⟩ : ∃ (b0 : Bool) (q0 : Nat) (t0 : zTks), zLS T L (zQ T L u 4) 1 p = (b0, q0, t0) := ⟨_, _, _, rfl⟩
  have hg1 := (zLS_gd (T := T) (zQ_gd (T := T) (L := L) (u := u) 4) 1) p (by omega)
  rw [hR1] at hg1
  obtain ⟨hga1, hgb1, hgc1⟩ : p ≤ q1 ∧ q1 ≤ L ∧ (b1 = true → p < q1 ∧ t1.length ≤ q1 - p ∧ zw1 t1) := hg1
  refine lv_aload_n hx hb dX1_readLevel_0 rfl (lv_at hl 0 rfl) ?_
  refine lv_iload_n hx hb dX1_readLevel_1 rfl (lv_at hl 1 rfl) ?_
  refine lv_iload_n hx hb dX1_readLevel_2 rfl (lv_at hl 2 rfl) ?_
  refine zci (wr := []) (va_runV (As := [.int (nI 3), .int (nI 1)]) (rest := []) ⟨hx, hb, hml, hown, hts⟩ (c_X1_readPart_3_1 l D cI cJ ad bd h hl9 ht hc hst L u T TB p c C b1 q1 t1 (by first | rfl | assumption | omega) (by first | rfl | assumption | omega) (by first | rfl | assumption | omega) (by first | rfl | assumption | omega) (by first | rfl | assumption | omega) (by first | rfl | assumption | omega) hR1 s.heap.size) (cwV 2 hts gX1_readLevel_X1_readPart rfl rfl rfl (by decide +kernel) ⟨Nat.le_of_ble_eq_true rfl, Nat.le_of_ble_eq_true rfl⟩) (zpVs hG hK hN hZ hP hD hS hA [0, 1, 2, 3] rfl (by decide) 0 rfl rfl rfl) rfl rfl hl.1 rfl (lv_room (Nat.le_of_ble_eq_true rfl)) dX1_readLevel_3 ⟨Nat.zero_le _, Nat.zero_le _⟩) hP hD hS hA [0, 1, 2, 3] [] rfl rfl (by decide) (by decide) (fun r_3 w_2 H locs h_1 hP hD hS => ?_)
  obtain ⟨c9_4, C9_5, hq9_6, hx9_7, rfl, rfl⟩ := h_1
  have hP : va_P D vwCl [(h, .inr (1, [.ref hl9, .ref ht, .int (nI L), .ref (ad u), .int (nI q1)])), (hl9, .inr (0, [.ref hc, .int (nI c9_4), .ref hst])), (hc, .inl (cI, 60, .inl C9_5)), (ht, .inl (cI, 60, .inl TB))] H := hP
  have hD : va_D AA [(h, .inr (1, [.ref hl9, .ref ht, .int (nI L), .ref (ad u), .int (nI q1)])), (hl9, .inr (0, [.ref hc, .int (nI c9_4), .ref hst])), (hc, .inl (cI, 60, .inl C9_5)), (ht, .inl (cI, 60, .inl TB))] := hD
  refine lv_if_ne (tgt := 11) hx hb dX1_readLevel_6 (by decide) (fun c6_8 => ?_) (fun c6_8 => ?_)
  · have c6_8 := bI_n0.mp c6_8
    obtain ⟨hgd1, hge1, hgf1⟩ := hgc1 c6_8
    obtain ⟨he1, hE1⟩ := hx9_7 c6_8
    subst he1; subst hE1
    have hz := zLv_tt hR hR1 c6_8
    refine lv_iload_n hx hb dX1_readLevel_11 rfl (lv_at hl 1 rfl) ?_
    refine lv_iconst (v := nI 2) hx hb dX1_readLevel_12 (by decide) ?_
    refine lv_icmp_ne (tgt := 20) hx hb dX1_readLevel_13 (by decide) (fun c13_9 => ?_) (fun c13_9 => ?_)
    · have c13_9 : ¬ (3 = 2) := fun h9 => c13_9 ((nI_eq (a := 3) (b := 2) (by omega) (by omega)).mpr h9)
      refine lv_bipush (v := nI 60) hx hb dX1_readLevel_20 (by decide) ?_
      refine lv_istore_n (lv' := [(3, .int (nI 60)), (0, .ref h), (1, .int (nI 3)), (2, .int (nI 1))]) hx hb dX1_readLevel_22 rfl hl (by decide) rfl (fun ls hl => ?_)
      refine lv_iconst (v := nI 0) hx hb dX1_readLevel_23 (by decide) ?_
      refine lv_istore (lv' := [(4, .int (nI 0)), (3, .int (nI 60)), (0, .ref h), (1, .int (nI 3)), (2, .int (nI 1))]) hx hb dX1_readLevel_24 hl (by decide) rfl (fun ls hl => ?_)
      have L_26 : ∀ (fu : Nat) (f : Nat) (pv : Nat) (ta : zTks) (i : Nat) (hn : f < fu) (hz : zct ta (zLp T L 3 (zLS T L (zQ T L u 4) 1) f pv) = (b, q, tl)) (hf : L - pv < f) (hpv : pv ≤ L) (hca : c + ta.length ≤ pv) (hi1 : i + 1 ≤ pv), ∀ (ls : Array Slot), lv_has ls 6 [(0, .ref h), (1, .int (nI 3)), (2, .int (nI 1)), (3, .int (nI 60)), (4, .int (nI i))] → ∀ (H : Heap) (locs : List Loc), va_P D vwCl [(h, .inr (1, [.ref hl9, .ref ht, .int (nI L), .ref (ad u), .int (nI pv)])), (hl9, .inr (0, [.ref hc, .int (nI ((c + ta.length))), .ref hst])), (hc, .inl (cI, 60, .inl (zapp C c ta))), (ht, .inl (cI, 60, .inl TB))] H → va_D AA [(h, .inr (1, [.ref hl9, .ref ht, .int (nI L), .ref (ad u), .int (nI pv)])), (hl9, .inr (0, [.ref hc, .int (nI ((c + ta.length))), .ref hst])), (hc, .inl (cI, 60, .inl (zapp C c ta))), (ht, .inl (cI, 60, .inl TB))] → va_S AA s.heap H locs → W pg l ev ({ frames := 52, cells := 0, slots := 0, locals := 1215 } : Room) s mt args below meth cd H locs 0 0 QQ (F0 mt 26 ls []) := by
        intro fu
        induction fu with
        | zero =>
          intro  f pv ta i  hn
          exact absurd hn (by omega)
        | succ fu ih_26 =>
          intro  f pv ta i  hn hz hf hpv hca hi1 ls hl H locs hP hD hS
          obtain ⟨f1, rfl⟩ : ∃ f1, f = f1 + 1 := ⟨f - 1, by omega⟩
          refine lv_iload hx hb dX1_readLevel_26 (lv_at hl 4 rfl) ?_
          refine lv_iload_n hx hb dX1_readLevel_28 rfl (lv_at hl 3 rfl) ?_
          refine lv_icmp_ge (tgt := 107) hx hb dX1_readLevel_29 (by decide) (fun c29_10 => ?_) (fun c29_10 => ?_)
          · have c29_10 : 60 ≤ i := (nI_leI (a := 60) (b := i) (by omega) (by omega)).mp c29_10
            exact absurd c29_10 (by omega)
          · have c29_10 : ¬ (60 ≤ i) := fun h9 => c29_10 ((nI_leI (a := 60) (b := i) (by omega) (by omega)).mpr h9)
            refine lv_aload_n hx hb dX1_readLevel_32 rfl (lv_at hl 0 rfl) ?_
            refine va_get (ci := 1) (v := .int (nI pv)) (C := RX1) (T := TX1) (N := 5) hx hb hts hin1 hown hK hP 0 rfl rfl 4 (by decide) (hts (.fieldLink RX1 32 "UpAllRound$Reader" "place" "I") (List.mem_of_getElem? (i := 1) rfl)) (fun _ h9 => h9) rfl dX1_readLevel_33 ?_
            refine lv_aload_n hx hb dX1_readLevel_36 rfl (lv_at hl 0 rfl) ?_
            refine va_get (ci := 1) (v := .int (nI L)) (C := RX1) (T := TX1) (N := 5) hx hb hts hin1 hown hK hP 0 rfl rfl 2 (by decide) (hts (.fieldLink RX1 22 "UpAllRound$Reader" "length" "I") (List.mem_of_getElem? (i := 2) rfl)) (fun _ h9 => h9) rfl dX1_readLevel_37 ?_
            refine lv_icmp_ge (tgt := 107) hx hb dX1_readLevel_40 (by decide) (fun c40_11 => ?_) (fun c40_11 => ?_)
            · have c40_11 : L ≤ pv := (nI_leI (a := L) (b := pv) (by omega) (by omega)).mp c40_11
              refine lv_iconst (v := nI 1) hx hb dX1_readLevel_107 (by decide) ?_
              exact hret hP hD hS dX1_readLevel_108 rfl (by obtain ⟨e1, e2, e3⟩ := zLe (f := f1) hz (by omega); subst e1; subst e2; subst e3; exact ⟨_, _, by omega, fun _ => ⟨rfl, rfl⟩, (bI_t rfl).symm, rfl⟩)
            · have c40_11 : ¬ (L ≤ pv) := fun h9 => c40_11 ((nI_leI (a := L) (b := pv) (by omega) (by omega)).mpr h9)
              refine lv_aload_n hx hb dX1_readLevel_43 rfl (lv_at hl 0 rfl) ?_
              refine va_get (ci := 1) (v := .ref ht) (C := RX1) (T := TX1) (N := 5) hx hb hts hin1 hown hK hP 0 rfl rfl 1 (by decide) (hts (.fieldLink RX1 18 "UpAllRound$Reader" "tape" "[I") (List.mem_of_getElem? (i := 3) rfl)) (fun _ h9 => h9) rfl dX1_readLevel_44 ?_
              refine lv_aload_n hx hb dX1_readLevel_47 rfl (lv_at hl 0 rfl) ?_
              refine va_get (ci := 1) (v := .int (nI pv)) (C := RX1) (T := TX1) (N := 5) hx hb hts hin1 hown hK hP 0 rfl rfl 4 (by decide) (hts (.fieldLink RX1 32 "UpAllRound$Reader" "place" "I") (List.mem_of_getElem? (i := 1) rfl)) (fun _ h9 => h9) rfl dX1_readLevel_48 ?_
              refine zald (t := pv) hx hb hK hP 3 rfl (by omega) (by decide) dX1_readLevel_51 ?_
              refine zrw (htb pv (by omega)) ?_
              refine zcsE (va_runS (As := [.int (nI (T pv))]) (rest := []) ⟨hx, hb, hml, hown, hts⟩ (c_X1_levelOf l D cI cJ (T pv) (hT pv (by omega)) H.size) (va_cwS 1 hts gX1_readLevel_X1_levelOf rfl rfl rfl (by decide +kernel) ⟨Nat.le_of_ble_eq_true rfl, Nat.le_of_ble_eq_true rfl⟩) (zpS hK hN hZ hP hD hS hA [] rfl (by decide)) rfl rfl hl.1 rfl (lv_room (Nat.le_of_ble_eq_true rfl)) dX1_readLevel_52 ⟨Nat.zero_le _, Nat.zero_le _⟩) ?_
              refine lv_iload_n hx hb dX1_readLevel_55 rfl (lv_at hl 1 rfl) ?_
              refine lv_icmp_ne (tgt := 107) hx hb dX1_readLevel_56 (by decide) (fun c56_12 => ?_) (fun c56_12 => ?_)
              · have c56_12 : ¬ (((zlv (T pv))) = 3) := fun h9 => c56_12 ((nI_eq (a := (zlv (T pv))) (b := 3) (by have h91 := zlv_le (T pv); omega) (by have h91 := zlv_le (T pv); omega)).mpr h9)
                refine lv_iconst (v := nI 1) hx hb dX1_readLevel_107 (by decide) ?_
                exact hret hP hD hS dX1_readLevel_108 rfl (by obtain ⟨e1, e2, e3⟩ := zLe (f := f1) hz (by omega); subst e1; subst e2; subst e3; exact ⟨_, _, by omega, fun _ => ⟨rfl, rfl⟩, (bI_t rfl).symm, rfl⟩)
              · have c56_12 : ((zlv (T pv))) = 3 := (nI_eq (a := (zlv (T pv))) (b := 3) (by have h91 := zlv_le (T pv); omega) (by have h91 := zlv_le (T pv); omega)).mp c56_12
                refine lv_aload_n hx hb dX1_readLevel_59 rfl (lv_at hl 0 rfl) ?_
                refine va_get (ci := 1) (v := .ref ht) (C := RX1) (T := TX1) (N := 5) hx hb hts hin1 hown hK hP 0 rfl rfl 1 (by decide) (hts (.fieldLink RX1 18 "UpAllRound$Reader" "tape" "[I") (List.mem_of_getElem? (i := 3) rfl)) (fun _ h9 => h9) rfl dX1_readLevel_60 ?_
                refine lv_aload_n hx hb dX1_readLevel_63 rfl (lv_at hl 0 rfl) ?_
                refine va_get (ci := 1) (v := .int (nI pv)) (C := RX1) (T := TX1) (N := 5) hx hb hts hin1 hown hK hP 0 rfl rfl 4 (by decide) (hts (.fieldLink RX1 32 "UpAllRound$Reader" "place" "I") (List.mem_of_getElem? (i := 1) rfl)) (fun _ h9 => h9) rfl dX1_readLevel_64 ?_
                refine zald (t := pv) hx hb hK hP 3 rfl (by omega) (by decide) dX1_readLevel_67 ?_
                refine zrw (htb pv (by omega)) ?_
                refine lv_istore (lv' := [(5, .int (nI (T pv))), (0, .ref h), (1, .int (nI 3)), (2, .int (nI 1)), (3, .int (nI 60)), (4, .int (nI i))]) hx hb dX1_readLevel_68 hl (by decide) rfl (fun ls hl => ?_)
                refine lv_aload_n hx hb dX1_readLevel_70 rfl (lv_at hl 1 rfl) ?_
                refine lv_dup hx hb dX1_readLevel_71 rfl ?_
                refine va_get (ci := 1) (v := .int (nI pv)) (C := RX1) (T := TX1) (N := 5) hx hb hts hin1 hown hK hP 0 rfl rfl 4 (by decide) (hts (.fieldLink RX1 32 "UpAllRound$Reader" "place" "I") (List.mem_of_getElem? (i := 1) rfl)) (fun _ h9 => h9) rfl dX1_readLevel_72 ?_
                refine lv_iconst (v := nI 1) hx hb dX1_readLevel_75 (by decide) ?_
                refine lv_iadd hx hb dX1_readLevel_76 ?_
                refine zrw (nI_add _ _) ?_
                refine va_put (ci := 1) (v := .int (nI (pv + 1))) (ty := .int) (C := RX1) (T := TX1) (N := 5) hx hb hts hin1 tyX1 tyX1_ok nmX1 hown hK hP hD hS 0 rfl rfl 4 (by decide) (hts (.fieldLink RX1 32 "UpAllRound$Reader" "place" "I") (List.mem_of_getElem? (i := 1) rfl)) (fun _ h9 => h9) rfl (by decide +kernel) rfl rfl (Nat.le_of_ble_eq_true rfl) dX1_readLevel_77 (fun H locs hP hD hS => ?_)
                have hP : va_P D vwCl [(h, .inr (1, [.ref hl9, .ref ht, .int (nI L), .ref (ad u), .int (nI (pv + 1))])), (hl9, .inr (0, [.ref hc, .int (nI ((c + ta.length))), .ref hst])), (hc, .inl (cI, 60, .inl (zapp C c ta))), (ht, .inl (cI, 60, .inl TB))] H := hP
                have hD : va_D AA [(h, .inr (1, [.ref hl9, .ref ht, .int (nI L), .ref (ad u), .int (nI (pv + 1))])), (hl9, .inr (0, [.ref hc, .int (nI ((c + ta.length))), .ref hst])), (hc, .inl (cI, 60, .inl (zapp C c ta))), (ht, .inl (cI, 60, .inl TB))] := hD
                obtain ⟨b2, q2, t2, hR2⟩ : ∃ (b0 : Bool) (q0 : Nat) (t0 : zTks), zLS T L (zQ T L u 4) 1 (pv + 1) = (b0, q0, t0) := ⟨_, _, _, rfl⟩
                have hg2 := (zLS_gd (T := T) (zQ_gd (T := T) (L := L) (u := u) 4) 1) (pv + 1) (by omega)
                rw [hR2] at hg2
                obtain ⟨hga2, hgb2, hgc2⟩ : (pv + 1) ≤ q2 ∧ q2 ≤ L ∧ (b2 = true → (pv + 1) < q2 ∧ t2.length ≤ q2 - (pv + 1) ∧ zw1 t2) := hg2
                refine lv_aload_n hx hb dX1_readLevel_80 rfl (lv_at hl 1 rfl) ?_
                refine lv_iload_n hx hb dX1_readLevel_81 rfl (lv_at hl 2 rfl) ?_
                refine lv_iload_n hx hb dX1_readLevel_82 rfl (lv_at hl 3 rfl) ?_
                refine zci (wr := []) (va_runV (As := [.int (nI 3), .int (nI 1)]) (rest := []) ⟨hx, hb, hml, hown, hts⟩ (c_X1_readPart_3_1 l D cI cJ ad bd h hl9 ht hc hst L u T TB (pv + 1) ((c + ta.length)) (zapp C c ta) b2 q2 t2 (by first | rfl | assumption | omega) (by first | rfl | assumption | omega) (by first | rfl | assumption | omega) (by first | rfl | assumption | omega) (by omega) (by omega) hR2 H.size) (cwV 2 hts gX1_readLevel_X1_readPart rfl rfl rfl (by decide +kernel) ⟨Nat.le_of_ble_eq_true rfl, Nat.le_of_ble_eq_true rfl⟩) (zpVs hG hK hN hZ hP hD hS hA [0, 1, 2, 3] rfl (by decide) 0 rfl rfl rfl) rfl rfl hl.1 rfl (lv_room (Nat.le_of_ble_eq_true rfl)) dX1_readLevel_83 ⟨Nat.zero_le _, Nat.zero_le _⟩) hP hD hS hA [0, 1, 2, 3] [] rfl rfl (by decide) (by decide) (fun r_15 w_14 H locs h_13 hP hD hS => ?_)
                obtain ⟨c9_16, C9_17, hq9_18, hx9_19, rfl, rfl⟩ := h_13
                have hP : va_P D vwCl [(h, .inr (1, [.ref hl9, .ref ht, .int (nI L), .ref (ad u), .int (nI q2)])), (hl9, .inr (0, [.ref hc, .int (nI c9_16), .ref hst])), (hc, .inl (cI, 60, .inl C9_17)), (ht, .inl (cI, 60, .inl TB))] H := hP
                have hD : va_D AA [(h, .inr (1, [.ref hl9, .ref ht, .int (nI L), .ref (ad u), .int (nI q2)])), (hl9, .inr (0, [.ref hc, .int (nI c9_16), .ref hst])), (hc, .inl (cI, 60, .inl C9_17)), (ht, .inl (cI, 60, .inl TB))] := hD
                refine lv_if_ne (tgt := 91) hx hb dX1_readLevel_86 (by decide) (fun c86_20 => ?_) (fun c86_20 => ?_)
                · have c86_20 := bI_n0.mp c86_20
                  obtain ⟨hgd2, hge2, hgf2⟩ := hgc2 c86_20
                  obtain ⟨he2, hE2⟩ := hx9_19 c86_20
                  subst he2; subst hE2
                  refine lv_aload_n hx hb dX1_readLevel_91 rfl (lv_at hl 1 rfl) ?_
                  refine va_get (ci := 1) (v := .ref hl9) (C := RX1) (T := TX1) (N := 5) hx hb hts hin1 hown hK hP 0 rfl rfl 0 (by decide) (hts (.fieldLink RX1 12 "UpAllRound$Reader" "law" "LUpAllRound$Law;") (List.mem_of_getElem? (i := 4) rfl)) (fun _ h9 => h9) rfl dX1_readLevel_92 ?_
                  refine lv_iload hx hb dX1_readLevel_95 (lv_at hl 0 rfl) ?_
                  refine lv_ineg hx hb dX1_readLevel_97 ?_
                  refine zcv (wr := [(h, .inr (1, [.ref hl9, .ref ht, .int (nI L), .ref (ad u), .int (nI q2)])), (ht, .inl (cI, 60, .inl TB))]) (va_runVN (As := [.int (-(nI (T pv)))]) (rest := []) ⟨hx, hb, hml, hown, hts⟩ (c_X0_add l D cI cJ hl9 hc hst ((c + ta.length + t2.length)) (zapp (zapp C c ta) (c + ta.length) t2) (-(nI (T pv))) (by omega) H.size) ⟨va_cnB 1 hts gX1_readLevel_X0_add_n61 rfl rfl rfl (hN (.methodLinkNest "UpAllRound$Reader" 61 yX0_add "UpAllRound") (List.mem_of_getElem? (i := 38) rfl)) (hts (.initialized RX0) (List.mem_of_getElem? (i := 13) rfl)) (by decide +kernel) ⟨Nat.le_of_ble_eq_true rfl, Nat.le_of_ble_eq_true rfl⟩, (hts (.instanceMethod yX0_add) (List.mem_of_getElem? (i := 12) rfl)), (hts (.selects RX0 yX0_add yX0_add) (List.mem_of_getElem? (i := 14) rfl))⟩ (zpV hK hN hZ hP hD hS hA [1, 2] rfl (by decide) 1 rfl rfl rfl) rfl rfl hl.1 rfl (lv_room (Nat.le_of_ble_eq_true rfl)) dX1_readLevel_98 ⟨Nat.zero_le _, Nat.zero_le _⟩) hP hD hS hA [1, 2] [0, 3] rfl rfl (by decide) (by decide) (fun w_22 H locs h_21 hP hD hS => ?_)
                  obtain rfl := h_21
                  have hP : va_P D vwCl [(h, .inr (1, [.ref hl9, .ref ht, .int (nI L), .ref (ad u), .int (nI q2)])), (ht, .inl (cI, 60, .inl TB)), (hl9, .inr (0, [.ref hc, .int (nI (((c + ta.length + t2.length)) + 1)), .ref hst])), (hc, .inl (cI, 60, .inl (upd (zapp (zapp C c ta) (c + ta.length) t2) ((c + ta.length + t2.length)) (-(nI (T pv))))))] H := hP
                  have hD : va_D AA [(h, .inr (1, [.ref hl9, .ref ht, .int (nI L), .ref (ad u), .int (nI q2)])), (ht, .inl (cI, 60, .inl TB)), (hl9, .inr (0, [.ref hc, .int (nI (((c + ta.length + t2.length)) + 1)), .ref hst])), (hc, .inl (cI, 60, .inl (upd (zapp (zapp C c ta) (c + ta.length) t2) ((c + ta.length + t2.length)) (-(nI (T pv))))))] := hD
                  refine lv_iinc (v := nI (i + 1)) (lv' := [(4, .int (nI (i + 1))), (5, .int (nI (T pv))), (0, .ref h), (1, .int (nI 3)), (2, .int (nI 1)), (3, .int (nI 60))]) hx hb dX1_readLevel_101 hl (k := 5) rfl (nI_add _ _) (by decide) rfl (fun ls hl => ?_)
                  refine lv_goto (tgt := 26) hx hb dX1_readLevel_104 (by decide) ?_
                  rw [show -(nI (T pv)) = zcode (3, T pv) from rfl, zapp1, zlen1 (t := (3, T pv))] at hP hD
                  exact ih_26   f1 q2 ((ta ++ (t2 ++ [(3, T pv)]))) ((i + 1)) (by omega) (zLt (by decide) hz ⟨by omega, by omega⟩ hR2 (by assumption)) (by omega) (by omega) (by rw [← zlen1]; omega) (by omega) ls (lv_sub hl [2, 3, 4, 5, 0] rfl) H locs (hP.sub [0, 2, 3, 1] rfl) (hD.sub [0, 2, 3, 1] (by decide) rfl) hS
                · have c86_20 := bI_0.mp c86_20
                  refine lv_iconst (v := nI 0) hx hb dX1_readLevel_89 (by decide) ?_
                  exact hret hP hD hS dX1_readLevel_90 rfl (by obtain ⟨e1, e2⟩ := zLf hz ⟨by omega, by omega⟩ hR2 (by assumption); subst e1; subst e2; exact ⟨_, _, hq9_18, fun h9 => (by cases h9), (bI_f (by decide)).symm, rfl⟩)
      exact L_26 62  61 q1 t1 0 (by omega) hz (by omega) (by omega) (by omega) (by omega) ls (lv_sub hl [2, 3, 4, 1, 0] rfl) _ _ hP hD hS
    · have c13_9 : 3 = 2 := (nI_eq (a := 3) (b := 2) (by omega) (by omega)).mp c13_9
      exact absurd c13_9 (by omega)
  · have c6_8 := bI_0.mp c6_8
    refine lv_iconst (v := nI 0) hx hb dX1_readLevel_9 (by decide) ?_
    exact hret hP hD hS dX1_readLevel_10 rfl (by obtain ⟨e1, e2⟩ := zLv_ff hR hR1 (by assumption); subst e1; subst e2; exact ⟨_, _, hq9_6, fun h9 => (by cases h9), (bI_f (by decide)).symm, rfl⟩)
set_option maxHeartbeats 4000000 in
set_option maxRecDepth 100000 in
theorem c_X1_readPart_2_1 (l : Launch) (D : va_G) (cI cJ : ClassId) (ad : Nat → Nat) (bd : Nat → Nat) (h : Nat) (hl9 : Nat) (ht : Nat) (hc : Nat) (hst : Nat) (L : Nat) (u : Nat) (T : Nat → Nat) (TB : Nat → Int32) (p : Nat) (c : Nat) (C : Nat → Int32) (b : Bool) (q : Nat) (tl : zTks) (hL : L ≤ 60) (hu1 : u ≤ 1) (hT : ∀ i, i < L → T i < 256) (htb : ∀ i, i < L → TB i = nI (T i)) (hp : p ≤ L) (hcp : c ≤ p) (hR : zLS T L (zQ T L u 4) 2 p = (b, q, tl)) : zTi ad bd l yX1_readPart wsX1_readPart ({ frames := 53, cells := 0, slots := 0, locals := 1240 } : Room) D [(cI, .int), (cJ, .array .int)] [.ref h, .int (nI 2), .int (nI 1)] [(h, .inr (1, [.ref hl9, .ref ht, .int (nI L), .ref (ad u), .int (nI p)])), (hl9, .inr (0, [.ref hc, .int (nI c), .ref hst])), (hc, .inl (cI, 60, .inl C)), (ht, .inl (cI, 60, .inl TB))] (fun r w => ∃ (c9 : Nat) (C9 : Nat → Int32), c9 ≤ q ∧ (b = true → c9 = c + tl.length ∧ C9 = zapp C c tl) ∧ r = bI (b = true) ∧ w = [(h, .inr (1, [.ref hl9, .ref ht, .int (nI L), .ref (ad u), .int (nI q)])), (hl9, .inr (0, [.ref hc, .int (nI c9), .ref hst])), (hc, .inl (cI, 60, .inl C9)), (ht, .inl (cI, 60, .inl TB))]) := by
  refine zTi.start (cc := cX1_readPart) (maxL := 3) (rt := .boolean) (by first | decide | decide +kernel) rfl (Nat.le_of_ble_eq_true rfl) ?_
  intro pg ev s mt args below meth cd ls AA QQ ⟨hx, hb, hml, hr, hlocks, hown, hts, hK, hN, hZ, hP, hD, hA, hS, hl⟩ hG hret
  have hown : s.vm.findClass RX1 = some mt.cls := hown
  have hl : lv_has ls 3 [(0, .ref h), (1, .int (nI 2)), (2, .int (nI 1))] := hl
  have hin0 : ∀ w ∈ wsX00, w ∈ wsX1_readPart := fun w h => List.mem_cons_of_mem _ (List.mem_append_right _ (h))
  have hin1 : ∀ w ∈ wsX10, w ∈ wsX1_readPart := fun w h => List.mem_cons_of_mem _ (List.mem_append_left _ (List.mem_append_right _ (h)))
  refine lv_iload_n hx hb dX1_readPart_0 rfl (lv_at hl 1 rfl) ?_
  refine lv_iconst (v := nI 1) hx hb dX1_readPart_1 (by decide) ?_
  refine lv_iadd hx hb dX1_readPart_2 ?_
  refine zrw (nI_add _ _) ?_
  refine lv_iconst (v := nI 5) hx hb dX1_readPart_3 (by decide) ?_
  refine lv_icmp_ge (tgt := 18) hx hb dX1_readPart_4 (by decide) (fun c4_1 => ?_) (fun c4_1 => ?_)
  · have c4_1 : 5 ≤ 3 := (nI_leI (a := 5) (b := 3) (by omega) (by omega)).mp c4_1
    exact absurd c4_1 (by omega)
  · have c4_1 : ¬ (5 ≤ 3) := fun h9 => c4_1 ((nI_leI (a := 5) (b := 3) (by omega) (by omega)).mpr h9)
    refine lv_aload_n hx hb dX1_readPart_7 rfl (lv_at hl 0 rfl) ?_
    refine lv_iload_n hx hb dX1_readPart_8 rfl (lv_at hl 1 rfl) ?_
    refine lv_iconst (v := nI 1) hx hb dX1_readPart_9 (by decide) ?_
    refine lv_iadd hx hb dX1_readPart_10 ?_
    refine zrw (nI_add _ _) ?_
    refine lv_iload_n hx hb dX1_readPart_11 rfl (lv_at hl 2 rfl) ?_
    refine zci (wr := []) (va_runV (As := [.int (nI 3), .int (nI 1)]) (rest := []) ⟨hx, hb, hml, hown, hts⟩ (c_X1_readLevel_3_1 l D cI cJ ad bd h hl9 ht hc hst L u T TB p c C b q tl (by first | rfl | assumption | omega) (by first | rfl | assumption | omega) (by first | rfl | assumption | omega) (by first | rfl | assumption | omega) (by first | rfl | assumption | omega) (by first | rfl | assumption | omega) hR s.heap.size) (cwV 2 hts gX1_readPart_X1_readLevel rfl rfl rfl (by decide +kernel) ⟨Nat.le_of_ble_eq_true rfl, Nat.le_of_ble_eq_true rfl⟩) (zpVs hG hK hN hZ hP hD hS hA [0, 1, 2, 3] rfl (by decide) 0 rfl rfl rfl) rfl rfl hl.1 rfl (lv_room (Nat.le_of_ble_eq_true rfl)) dX1_readPart_12 ⟨Nat.zero_le _, Nat.zero_le _⟩) hP hD hS hA [0, 1, 2, 3] [] rfl rfl (by decide) (by decide) (fun r_4 w_3 H locs h_2 hP hD hS => ?_)
    obtain ⟨c9_5, C9_6, hq9_7, hx9_8, rfl, rfl⟩ := h_2
    have hP : va_P D vwCl [(h, .inr (1, [.ref hl9, .ref ht, .int (nI L), .ref (ad u), .int (nI q)])), (hl9, .inr (0, [.ref hc, .int (nI c9_5), .ref hst])), (hc, .inl (cI, 60, .inl C9_6)), (ht, .inl (cI, 60, .inl TB))] H := hP
    have hD : va_D AA [(h, .inr (1, [.ref hl9, .ref ht, .int (nI L), .ref (ad u), .int (nI q)])), (hl9, .inr (0, [.ref hc, .int (nI c9_5), .ref hst])), (hc, .inl (cI, 60, .inl C9_6)), (ht, .inl (cI, 60, .inl TB))] := hD
    refine lv_goto (tgt := 23) hx hb dX1_readPart_15 (by decide) ?_
    exact hret hP hD hS dX1_readPart_23 nar_bI (by exact ⟨_, _, hq9_7, hx9_8, rfl, rfl⟩)
set_option maxHeartbeats 4000000 in
set_option maxRecDepth 100000 in
theorem c_X1_readLevel_2_1 (l : Launch) (D : va_G) (cI cJ : ClassId) (ad : Nat → Nat) (bd : Nat → Nat) (h : Nat) (hl9 : Nat) (ht : Nat) (hc : Nat) (hst : Nat) (L : Nat) (u : Nat) (T : Nat → Nat) (TB : Nat → Int32) (p : Nat) (c : Nat) (C : Nat → Int32) (b : Bool) (q : Nat) (tl : zTks) (hL : L ≤ 60) (hu1 : u ≤ 1) (hT : ∀ i, i < L → T i < 256) (htb : ∀ i, i < L → TB i = nI (T i)) (hp : p ≤ L) (hcp : c ≤ p) (hR : zLS T L (zQ T L u 4) 3 p = (b, q, tl)) : zTi ad bd l yX1_readLevel wsX1_readLevel ({ frames := 54, cells := 0, slots := 0, locals := 1262 } : Room) D [(cI, .int), (cJ, .array .int)] [.ref h, .int (nI 2), .int (nI 1)] [(h, .inr (1, [.ref hl9, .ref ht, .int (nI L), .ref (ad u), .int (nI p)])), (hl9, .inr (0, [.ref hc, .int (nI c), .ref hst])), (hc, .inl (cI, 60, .inl C)), (ht, .inl (cI, 60, .inl TB))] (fun r w => ∃ (c9 : Nat) (C9 : Nat → Int32), c9 ≤ q ∧ (b = true → c9 = c + tl.length ∧ C9 = zapp C c tl) ∧ r = bI (b = true) ∧ w = [(h, .inr (1, [.ref hl9, .ref ht, .int (nI L), .ref (ad u), .int (nI q)])), (hl9, .inr (0, [.ref hc, .int (nI c9), .ref hst])), (hc, .inl (cI, 60, .inl C9)), (ht, .inl (cI, 60, .inl TB))]) := by
  refine zTi.start (cc := cX1_readLevel) (maxL := 6) (rt := .boolean) (by first | decide | decide +kernel) rfl (Nat.le_of_ble_eq_true rfl) ?_
  intro pg ev s mt args below meth cd ls AA QQ ⟨hx, hb, hml, hr, hlocks, hown, hts, hK, hN, hZ, hP, hD, hA, hS, hl⟩ hG hret
  have hown : s.vm.findClass RX1 = some mt.cls := hown
  have hl : lv_has ls 6 [(0, .ref h), (1, .int (nI 2)), (2, .int (nI 1))] := hl
  have hin0 : ∀ w ∈ wsX00, w ∈ wsX1_readLevel := fun w h => List.mem_cons_of_mem _ (List.mem_append_right _ (h))
  have hin1 : ∀ w ∈ wsX10, w ∈ wsX1_readLevel := fun w h => List.mem_cons_of_mem _ (List.mem_append_left _ (List.mem_append_right _ (h)))
  have hR : zLv T L 2 (zLS T L (zQ T L u 4) 2) p = (b, q, tl) := hR
  obtain ⟨b1, q1, t1, hR1⟩ : ∃ (b0 : Bool) (q0 : Nat) (t0 : zTks), zLS T L (zQ T L u 4) 2 p = (b0, q0, t0) := ⟨_, _, _, rfl⟩
  have hg1 := (zLS_gd (T := T) (zQ_gd (T := T) (L := L) (u := u) 4) 2) p (by omega)
  rw [hR1] at hg1
  obtain ⟨hga1, hgb1, hgc1⟩ : p ≤ q1 ∧ q1 ≤ L ∧ (b1 = true → p < q1 ∧ t1.length ≤ q1 - p ∧ zw1 t1) := hg1
  refine lv_aload_n hx hb dX1_readLevel_0 rfl (lv_at hl 0 rfl) ?_
  refine lv_iload_n hx hb dX1_readLevel_1 rfl (lv_at hl 1 rfl) ?_
  refine lv_iload_n hx hb dX1_readLevel_2 rfl (lv_at hl 2 rfl) ?_
  refine zci (wr := []) (va_runV (As := [.int (nI 2), .int (nI 1)]) (rest := []) ⟨hx, hb, hml, hown, hts⟩ (c_X1_readPart_2_1 l D cI cJ ad bd h hl9 ht hc hst L u T TB p c C b1 q1 t1 (by first | rfl | assumption | omega) (by first | rfl | assumption | omega) (by first | rfl | assumption | omega) (by first | rfl | assumption | omega) (by first | rfl | assumption | omega) (by first | rfl | assumption | omega) hR1 s.heap.size) (cwV 2 hts gX1_readLevel_X1_readPart rfl rfl rfl (by decide +kernel) ⟨Nat.le_of_ble_eq_true rfl, Nat.le_of_ble_eq_true rfl⟩) (zpVs hG hK hN hZ hP hD hS hA [0, 1, 2, 3] rfl (by decide) 0 rfl rfl rfl) rfl rfl hl.1 rfl (lv_room (Nat.le_of_ble_eq_true rfl)) dX1_readLevel_3 ⟨Nat.zero_le _, Nat.zero_le _⟩) hP hD hS hA [0, 1, 2, 3] [] rfl rfl (by decide) (by decide) (fun r_3 w_2 H locs h_1 hP hD hS => ?_)
  obtain ⟨c9_4, C9_5, hq9_6, hx9_7, rfl, rfl⟩ := h_1
  have hP : va_P D vwCl [(h, .inr (1, [.ref hl9, .ref ht, .int (nI L), .ref (ad u), .int (nI q1)])), (hl9, .inr (0, [.ref hc, .int (nI c9_4), .ref hst])), (hc, .inl (cI, 60, .inl C9_5)), (ht, .inl (cI, 60, .inl TB))] H := hP
  have hD : va_D AA [(h, .inr (1, [.ref hl9, .ref ht, .int (nI L), .ref (ad u), .int (nI q1)])), (hl9, .inr (0, [.ref hc, .int (nI c9_4), .ref hst])), (hc, .inl (cI, 60, .inl C9_5)), (ht, .inl (cI, 60, .inl TB))] := hD
  refine lv_if_ne (tgt := 11) hx hb dX1_readLevel_6 (by decide) (fun c6_8 => ?_) (fun c6_8 => ?_)
  · have c6_8 := bI_n0.mp c6_8
    obtain ⟨hgd1, hge1, hgf1⟩ := hgc1 c6_8
    obtain ⟨he1, hE1⟩ := hx9_7 c6_8
    subst he1; subst hE1
    have hz := zLv_tt hR hR1 c6_8
    refine lv_iload_n hx hb dX1_readLevel_11 rfl (lv_at hl 1 rfl) ?_
    refine lv_iconst (v := nI 2) hx hb dX1_readLevel_12 (by decide) ?_
    refine lv_icmp_ne (tgt := 20) hx hb dX1_readLevel_13 (by decide) (fun c13_9 => ?_) (fun c13_9 => ?_)
    · have c13_9 : ¬ (2 = 2) := fun h9 => c13_9 ((nI_eq (a := 2) (b := 2) (by omega) (by omega)).mpr h9)
      exact absurd c13_9 (by omega)
    · have c13_9 : 2 = 2 := (nI_eq (a := 2) (b := 2) (by omega) (by omega)).mp c13_9
      refine lv_iconst (v := nI 1) hx hb dX1_readLevel_16 (by decide) ?_
      refine lv_goto (tgt := 22) hx hb dX1_readLevel_17 (by decide) ?_
      refine lv_istore_n (lv' := [(3, .int (nI 1)), (0, .ref h), (1, .int (nI 2)), (2, .int (nI 1))]) hx hb dX1_readLevel_22 rfl hl (by decide) rfl (fun ls hl => ?_)
      refine lv_iconst (v := nI 0) hx hb dX1_readLevel_23 (by decide) ?_
      refine lv_istore (lv' := [(4, .int (nI 0)), (3, .int (nI 1)), (0, .ref h), (1, .int (nI 2)), (2, .int (nI 1))]) hx hb dX1_readLevel_24 hl (by decide) rfl (fun ls hl => ?_)
      refine lv_iload hx hb dX1_readLevel_26 (lv_at hl 0 rfl) ?_
      refine lv_iload_n hx hb dX1_readLevel_28 rfl (lv_at hl 1 rfl) ?_
      refine lv_icmp_ge (tgt := 107) hx hb dX1_readLevel_29 (by decide) (fun c29_10 => ?_) (fun c29_10 => ?_)
      · have c29_10 : 1 ≤ 0 := (nI_leI (a := 1) (b := 0) (by omega) (by omega)).mp c29_10
        exact absurd c29_10 (by omega)
      · have c29_10 : ¬ (1 ≤ 0) := fun h9 => c29_10 ((nI_leI (a := 1) (b := 0) (by omega) (by omega)).mpr h9)
        refine lv_aload_n hx hb dX1_readLevel_32 rfl (lv_at hl 2 rfl) ?_
        refine va_get (ci := 1) (v := .int (nI q1)) (C := RX1) (T := TX1) (N := 5) hx hb hts hin1 hown hK hP 0 rfl rfl 4 (by decide) (hts (.fieldLink RX1 32 "UpAllRound$Reader" "place" "I") (List.mem_of_getElem? (i := 1) rfl)) (fun _ h9 => h9) rfl dX1_readLevel_33 ?_
        refine lv_aload_n hx hb dX1_readLevel_36 rfl (lv_at hl 2 rfl) ?_
        refine va_get (ci := 1) (v := .int (nI L)) (C := RX1) (T := TX1) (N := 5) hx hb hts hin1 hown hK hP 0 rfl rfl 2 (by decide) (hts (.fieldLink RX1 22 "UpAllRound$Reader" "length" "I") (List.mem_of_getElem? (i := 2) rfl)) (fun _ h9 => h9) rfl dX1_readLevel_37 ?_
        refine lv_icmp_ge (tgt := 107) hx hb dX1_readLevel_40 (by decide) (fun c40_11 => ?_) (fun c40_11 => ?_)
        · have c40_11 : L ≤ q1 := (nI_leI (a := L) (b := q1) (by omega) (by omega)).mp c40_11
          refine lv_iconst (v := nI 1) hx hb dX1_readLevel_107 (by decide) ?_
          exact hret hP hD hS dX1_readLevel_108 rfl (by obtain ⟨e1, e2, e3⟩ := zLe (f := 60) hz (by omega); subst e1; subst e2; subst e3; exact ⟨_, _, by omega, fun _ => ⟨rfl, rfl⟩, (bI_t rfl).symm, rfl⟩)
        · have c40_11 : ¬ (L ≤ q1) := fun h9 => c40_11 ((nI_leI (a := L) (b := q1) (by omega) (by omega)).mpr h9)
          refine lv_aload_n hx hb dX1_readLevel_43 rfl (lv_at hl 2 rfl) ?_
          refine va_get (ci := 1) (v := .ref ht) (C := RX1) (T := TX1) (N := 5) hx hb hts hin1 hown hK hP 0 rfl rfl 1 (by decide) (hts (.fieldLink RX1 18 "UpAllRound$Reader" "tape" "[I") (List.mem_of_getElem? (i := 3) rfl)) (fun _ h9 => h9) rfl dX1_readLevel_44 ?_
          refine lv_aload_n hx hb dX1_readLevel_47 rfl (lv_at hl 2 rfl) ?_
          refine va_get (ci := 1) (v := .int (nI q1)) (C := RX1) (T := TX1) (N := 5) hx hb hts hin1 hown hK hP 0 rfl rfl 4 (by decide) (hts (.fieldLink RX1 32 "UpAllRound$Reader" "place" "I") (List.mem_of_getElem? (i := 1) rfl)) (fun _ h9 => h9) rfl dX1_readLevel_48 ?_
          refine zald (t := q1) hx hb hK hP 3 rfl (by omega) (by decide) dX1_readLevel_51 ?_
          refine zrw (htb q1 (by omega)) ?_
          refine zcsE (va_runS (As := [.int (nI (T q1))]) (rest := []) ⟨hx, hb, hml, hown, hts⟩ (c_X1_levelOf l D cI cJ (T q1) (hT q1 (by omega)) H.size) (va_cwS 1 hts gX1_readLevel_X1_levelOf rfl rfl rfl (by decide +kernel) ⟨Nat.le_of_ble_eq_true rfl, Nat.le_of_ble_eq_true rfl⟩) (zpS hK hN hZ hP hD hS hA [] rfl (by decide)) rfl rfl hl.1 rfl (lv_room (Nat.le_of_ble_eq_true rfl)) dX1_readLevel_52 ⟨Nat.zero_le _, Nat.zero_le _⟩) ?_
          refine lv_iload_n hx hb dX1_readLevel_55 rfl (lv_at hl 3 rfl) ?_
          refine lv_icmp_ne (tgt := 107) hx hb dX1_readLevel_56 (by decide) (fun c56_12 => ?_) (fun c56_12 => ?_)
          · have c56_12 : ¬ (((zlv (T q1))) = 2) := fun h9 => c56_12 ((nI_eq (a := (zlv (T q1))) (b := 2) (by have h91 := zlv_le (T q1); omega) (by have h91 := zlv_le (T q1); omega)).mpr h9)
            refine lv_iconst (v := nI 1) hx hb dX1_readLevel_107 (by decide) ?_
            exact hret hP hD hS dX1_readLevel_108 rfl (by obtain ⟨e1, e2, e3⟩ := zLe (f := 60) hz (by omega); subst e1; subst e2; subst e3; exact ⟨_, _, by omega, fun _ => ⟨rfl, rfl⟩, (bI_t rfl).symm, rfl⟩)
          · have c56_12 : ((zlv (T q1))) = 2 := (nI_eq (a := (zlv (T q1))) (b := 2) (by have h91 := zlv_le (T q1); omega) (by have h91 := zlv_le (T q1); omega)).mp c56_12
            refine lv_aload_n hx hb dX1_readLevel_59 rfl (lv_at hl 2 rfl) ?_
            refine va_get (ci := 1) (v := .ref ht) (C := RX1) (T := TX1) (N := 5) hx hb hts hin1 hown hK hP 0 rfl rfl 1 (by decide) (hts (.fieldLink RX1 18 "UpAllRound$Reader" "tape" "[I") (List.mem_of_getElem? (i := 3) rfl)) (fun _ h9 => h9) rfl dX1_readLevel_60 ?_
            refine lv_aload_n hx hb dX1_readLevel_63 rfl (lv_at hl 2 rfl) ?_
            refine va_get (ci := 1) (v := .int (nI q1)) (C := RX1) (T := TX1) (N := 5) hx hb hts hin1 hown hK hP 0 rfl rfl 4 (by decide) (hts (.fieldLink RX1 32 "UpAllRound$Reader" "place" "I") (List.mem_of_getElem? (i := 1) rfl)) (fun _ h9 => h9) rfl dX1_readLevel_64 ?_
            refine zald (t := q1) hx hb hK hP 3 rfl (by omega) (by decide) dX1_readLevel_67 ?_
            refine zrw (htb q1 (by omega)) ?_
            refine lv_istore (lv' := [(5, .int (nI (T q1))), (4, .int (nI 0)), (3, .int (nI 1)), (0, .ref h), (1, .int (nI 2)), (2, .int (nI 1))]) hx hb dX1_readLevel_68 hl (by decide) rfl (fun ls hl => ?_)
            refine lv_aload_n hx hb dX1_readLevel_70 rfl (lv_at hl 3 rfl) ?_
            refine lv_dup hx hb dX1_readLevel_71 rfl ?_
            refine va_get (ci := 1) (v := .int (nI q1)) (C := RX1) (T := TX1) (N := 5) hx hb hts hin1 hown hK hP 0 rfl rfl 4 (by decide) (hts (.fieldLink RX1 32 "UpAllRound$Reader" "place" "I") (List.mem_of_getElem? (i := 1) rfl)) (fun _ h9 => h9) rfl dX1_readLevel_72 ?_
            refine lv_iconst (v := nI 1) hx hb dX1_readLevel_75 (by decide) ?_
            refine lv_iadd hx hb dX1_readLevel_76 ?_
            refine zrw (nI_add _ _) ?_
            refine va_put (ci := 1) (v := .int (nI (q1 + 1))) (ty := .int) (C := RX1) (T := TX1) (N := 5) hx hb hts hin1 tyX1 tyX1_ok nmX1 hown hK hP hD hS 0 rfl rfl 4 (by decide) (hts (.fieldLink RX1 32 "UpAllRound$Reader" "place" "I") (List.mem_of_getElem? (i := 1) rfl)) (fun _ h9 => h9) rfl (by decide +kernel) rfl rfl (Nat.le_of_ble_eq_true rfl) dX1_readLevel_77 (fun H locs hP hD hS => ?_)
            have hP : va_P D vwCl [(h, .inr (1, [.ref hl9, .ref ht, .int (nI L), .ref (ad u), .int (nI (q1 + 1))])), (hl9, .inr (0, [.ref hc, .int (nI ((c + t1.length))), .ref hst])), (hc, .inl (cI, 60, .inl (zapp C c t1))), (ht, .inl (cI, 60, .inl TB))] H := hP
            have hD : va_D AA [(h, .inr (1, [.ref hl9, .ref ht, .int (nI L), .ref (ad u), .int (nI (q1 + 1))])), (hl9, .inr (0, [.ref hc, .int (nI ((c + t1.length))), .ref hst])), (hc, .inl (cI, 60, .inl (zapp C c t1))), (ht, .inl (cI, 60, .inl TB))] := hD
            obtain ⟨b2, q2, t2, hR2⟩ : ∃ (b0 : Bool) (q0 : Nat) (t0 : zTks), zLS T L (zQ T L u 4) 2 (q1 + 1) = (b0, q0, t0) := ⟨_, _, _, rfl⟩
            have hg2 := (zLS_gd (T := T) (zQ_gd (T := T) (L := L) (u := u) 4) 2) (q1 + 1) (by omega)
            rw [hR2] at hg2
            obtain ⟨hga2, hgb2, hgc2⟩ : (q1 + 1) ≤ q2 ∧ q2 ≤ L ∧ (b2 = true → (q1 + 1) < q2 ∧ t2.length ≤ q2 - (q1 + 1) ∧ zw1 t2) := hg2
            refine lv_aload_n hx hb dX1_readLevel_80 rfl (lv_at hl 3 rfl) ?_
            refine lv_iload_n hx hb dX1_readLevel_81 rfl (lv_at hl 4 rfl) ?_
            refine lv_iload_n hx hb dX1_readLevel_82 rfl (lv_at hl 5 rfl) ?_
            refine zci (wr := []) (va_runV (As := [.int (nI 2), .int (nI 1)]) (rest := []) ⟨hx, hb, hml, hown, hts⟩ (c_X1_readPart_2_1 l D cI cJ ad bd h hl9 ht hc hst L u T TB (q1 + 1) ((c + t1.length)) (zapp C c t1) b2 q2 t2 (by first | rfl | assumption | omega) (by first | rfl | assumption | omega) (by first | rfl | assumption | omega) (by first | rfl | assumption | omega) (by omega) (by omega) hR2 H.size) (cwV 2 hts gX1_readLevel_X1_readPart rfl rfl rfl (by decide +kernel) ⟨Nat.le_of_ble_eq_true rfl, Nat.le_of_ble_eq_true rfl⟩) (zpVs hG hK hN hZ hP hD hS hA [0, 1, 2, 3] rfl (by decide) 0 rfl rfl rfl) rfl rfl hl.1 rfl (lv_room (Nat.le_of_ble_eq_true rfl)) dX1_readLevel_83 ⟨Nat.zero_le _, Nat.zero_le _⟩) hP hD hS hA [0, 1, 2, 3] [] rfl rfl (by decide) (by decide) (fun r_15 w_14 H locs h_13 hP hD hS => ?_)
            obtain ⟨c9_16, C9_17, hq9_18, hx9_19, rfl, rfl⟩ := h_13
            have hP : va_P D vwCl [(h, .inr (1, [.ref hl9, .ref ht, .int (nI L), .ref (ad u), .int (nI q2)])), (hl9, .inr (0, [.ref hc, .int (nI c9_16), .ref hst])), (hc, .inl (cI, 60, .inl C9_17)), (ht, .inl (cI, 60, .inl TB))] H := hP
            have hD : va_D AA [(h, .inr (1, [.ref hl9, .ref ht, .int (nI L), .ref (ad u), .int (nI q2)])), (hl9, .inr (0, [.ref hc, .int (nI c9_16), .ref hst])), (hc, .inl (cI, 60, .inl C9_17)), (ht, .inl (cI, 60, .inl TB))] := hD
            refine lv_if_ne (tgt := 91) hx hb dX1_readLevel_86 (by decide) (fun c86_20 => ?_) (fun c86_20 => ?_)
            · have c86_20 := bI_n0.mp c86_20
              obtain ⟨hgd2, hge2, hgf2⟩ := hgc2 c86_20
              obtain ⟨he2, hE2⟩ := hx9_19 c86_20
              subst he2; subst hE2
              refine lv_aload_n hx hb dX1_readLevel_91 rfl (lv_at hl 3 rfl) ?_
              refine va_get (ci := 1) (v := .ref hl9) (C := RX1) (T := TX1) (N := 5) hx hb hts hin1 hown hK hP 0 rfl rfl 0 (by decide) (hts (.fieldLink RX1 12 "UpAllRound$Reader" "law" "LUpAllRound$Law;") (List.mem_of_getElem? (i := 4) rfl)) (fun _ h9 => h9) rfl dX1_readLevel_92 ?_
              refine lv_iload hx hb dX1_readLevel_95 (lv_at hl 0 rfl) ?_
              refine lv_ineg hx hb dX1_readLevel_97 ?_
              refine zcv (wr := [(h, .inr (1, [.ref hl9, .ref ht, .int (nI L), .ref (ad u), .int (nI q2)])), (ht, .inl (cI, 60, .inl TB))]) (va_runVN (As := [.int (-(nI (T q1)))]) (rest := []) ⟨hx, hb, hml, hown, hts⟩ (c_X0_add l D cI cJ hl9 hc hst ((c + t1.length + t2.length)) (zapp (zapp C c t1) (c + t1.length) t2) (-(nI (T q1))) (by omega) H.size) ⟨va_cnB 1 hts gX1_readLevel_X0_add_n61 rfl rfl rfl (hN (.methodLinkNest "UpAllRound$Reader" 61 yX0_add "UpAllRound") (List.mem_of_getElem? (i := 38) rfl)) (hts (.initialized RX0) (List.mem_of_getElem? (i := 13) rfl)) (by decide +kernel) ⟨Nat.le_of_ble_eq_true rfl, Nat.le_of_ble_eq_true rfl⟩, (hts (.instanceMethod yX0_add) (List.mem_of_getElem? (i := 12) rfl)), (hts (.selects RX0 yX0_add yX0_add) (List.mem_of_getElem? (i := 14) rfl))⟩ (zpV hK hN hZ hP hD hS hA [1, 2] rfl (by decide) 1 rfl rfl rfl) rfl rfl hl.1 rfl (lv_room (Nat.le_of_ble_eq_true rfl)) dX1_readLevel_98 ⟨Nat.zero_le _, Nat.zero_le _⟩) hP hD hS hA [1, 2] [0, 3] rfl rfl (by decide) (by decide) (fun w_22 H locs h_21 hP hD hS => ?_)
              obtain rfl := h_21
              have hP : va_P D vwCl [(h, .inr (1, [.ref hl9, .ref ht, .int (nI L), .ref (ad u), .int (nI q2)])), (ht, .inl (cI, 60, .inl TB)), (hl9, .inr (0, [.ref hc, .int (nI (((c + t1.length + t2.length)) + 1)), .ref hst])), (hc, .inl (cI, 60, .inl (upd (zapp (zapp C c t1) (c + t1.length) t2) ((c + t1.length + t2.length)) (-(nI (T q1))))))] H := hP
              have hD : va_D AA [(h, .inr (1, [.ref hl9, .ref ht, .int (nI L), .ref (ad u), .int (nI q2)])), (ht, .inl (cI, 60, .inl TB)), (hl9, .inr (0, [.ref hc, .int (nI (((c + t1.length + t2.length)) + 1)), .ref hst])), (hc, .inl (cI, 60, .inl (upd (zapp (zapp C c t1) (c + t1.length) t2) ((c + t1.length + t2.length)) (-(nI (T q1))))))] := hD
              refine lv_iinc (v := nI (0 + 1)) (lv' := [(4, .int (nI (0 + 1))), (5, .int (nI (T q1))), (3, .int (nI 1)), (0, .ref h), (1, .int (nI 2)), (2, .int (nI 1))]) hx hb dX1_readLevel_101 hl (k := 1) rfl (nI_add _ _) (by decide) rfl (fun ls hl => ?_)
              refine lv_goto (tgt := 26) hx hb dX1_readLevel_104 (by decide) ?_
              refine lv_iload hx hb dX1_readLevel_26 (lv_at hl 0 rfl) ?_
              refine lv_iload_n hx hb dX1_readLevel_28 rfl (lv_at hl 2 rfl) ?_
              refine lv_icmp_ge (tgt := 107) hx hb dX1_readLevel_29 (by decide) (fun c29_23 => ?_) (fun c29_23 => ?_)
              · have c29_23 : 1 ≤ (0 + 1) := (nI_leI (a := 1) (b := 0 + 1) (by omega) (by omega)).mp c29_23
                refine lv_iconst (v := nI 1) hx hb dX1_readLevel_107 (by decide) ?_
                have hP := hP.sub (ws' := [(h, .inr (1, [.ref hl9, .ref ht, .int (nI L), .ref (ad u), .int (nI q2)])), (hl9, .inr (0, [.ref hc, .int (nI (((c + t1.length + t2.length)) + 1)), .ref hst])), (hc, .inl (cI, 60, .inl (upd (zapp (zapp C c t1) (c + t1.length) t2) ((c + t1.length + t2.length)) (-(nI (T q1)))))), (ht, .inl (cI, 60, .inl TB))]) [0, 2, 3, 1] rfl
                have hD := hD.sub (ws' := [(h, .inr (1, [.ref hl9, .ref ht, .int (nI L), .ref (ad u), .int (nI q2)])), (hl9, .inr (0, [.ref hc, .int (nI (((c + t1.length + t2.length)) + 1)), .ref hst])), (hc, .inl (cI, 60, .inl (upd (zapp (zapp C c t1) (c + t1.length) t2) ((c + t1.length + t2.length)) (-(nI (T q1)))))), (ht, .inl (cI, 60, .inl TB))]) [0, 2, 3, 1] (by decide) rfl
                exact hret hP hD hS dX1_readLevel_108 rfl (by obtain ⟨e1, e2, e3⟩ := zL2 hz ⟨by omega, by omega⟩ hR2 (by assumption); subst e1; subst e2; subst e3; exact ⟨_, _, by omega, fun _ => ⟨zlen1, zapp1⟩, (bI_t rfl).symm, rfl⟩)
              · have c29_23 : ¬ (1 ≤ (0 + 1)) := fun h9 => c29_23 ((nI_leI (a := 1) (b := 0 + 1) (by omega) (by omega)).mpr h9)
                exact absurd c29_23 (by omega)
            · have c86_20 := bI_0.mp c86_20
              refine lv_iconst (v := nI 0) hx hb dX1_readLevel_89 (by decide) ?_
              exact hret hP hD hS dX1_readLevel_90 rfl (by obtain ⟨e1, e2⟩ := zLf hz ⟨by omega, by omega⟩ hR2 (by assumption); subst e1; subst e2; exact ⟨_, _, hq9_18, fun h9 => (by cases h9), (bI_f (by decide)).symm, rfl⟩)
  · have c6_8 := bI_0.mp c6_8
    refine lv_iconst (v := nI 0) hx hb dX1_readLevel_9 (by decide) ?_
    exact hret hP hD hS dX1_readLevel_10 rfl (by obtain ⟨e1, e2⟩ := zLv_ff hR hR1 (by assumption); subst e1; subst e2; exact ⟨_, _, hq9_6, fun h9 => (by cases h9), (bI_f (by decide)).symm, rfl⟩)
set_option maxHeartbeats 4000000 in
set_option maxRecDepth 100000 in
theorem c_X1_readPart_1_1 (l : Launch) (D : va_G) (cI cJ : ClassId) (ad : Nat → Nat) (bd : Nat → Nat) (h : Nat) (hl9 : Nat) (ht : Nat) (hc : Nat) (hst : Nat) (L : Nat) (u : Nat) (T : Nat → Nat) (TB : Nat → Int32) (p : Nat) (c : Nat) (C : Nat → Int32) (b : Bool) (q : Nat) (tl : zTks) (hL : L ≤ 60) (hu1 : u ≤ 1) (hT : ∀ i, i < L → T i < 256) (htb : ∀ i, i < L → TB i = nI (T i)) (hp : p ≤ L) (hcp : c ≤ p) (hR : zLS T L (zQ T L u 4) 3 p = (b, q, tl)) : zTi ad bd l yX1_readPart wsX1_readPart ({ frames := 55, cells := 0, slots := 0, locals := 1287 } : Room) D [(cI, .int), (cJ, .array .int)] [.ref h, .int (nI 1), .int (nI 1)] [(h, .inr (1, [.ref hl9, .ref ht, .int (nI L), .ref (ad u), .int (nI p)])), (hl9, .inr (0, [.ref hc, .int (nI c), .ref hst])), (hc, .inl (cI, 60, .inl C)), (ht, .inl (cI, 60, .inl TB))] (fun r w => ∃ (c9 : Nat) (C9 : Nat → Int32), c9 ≤ q ∧ (b = true → c9 = c + tl.length ∧ C9 = zapp C c tl) ∧ r = bI (b = true) ∧ w = [(h, .inr (1, [.ref hl9, .ref ht, .int (nI L), .ref (ad u), .int (nI q)])), (hl9, .inr (0, [.ref hc, .int (nI c9), .ref hst])), (hc, .inl (cI, 60, .inl C9)), (ht, .inl (cI, 60, .inl TB))]) := by
  refine zTi.start (cc := cX1_readPart) (maxL := 3) (rt := .boolean) (by first | decide | decide +kernel) rfl (Nat.le_of_ble_eq_true rfl) ?_
  intro pg ev s mt args below meth cd ls AA QQ ⟨hx, hb, hml, hr, hlocks, hown, hts, hK, hN, hZ, hP, hD, hA, hS, hl⟩ hG hret
  have hown : s.vm.findClass RX1 = some mt.cls := hown
  have hl : lv_has ls 3 [(0, .ref h), (1, .int (nI 1)), (2, .int (nI 1))] := hl
  have hin0 : ∀ w ∈ wsX00, w ∈ wsX1_readPart := fun w h => List.mem_cons_of_mem _ (List.mem_append_right _ (h))
  have hin1 : ∀ w ∈ wsX10, w ∈ wsX1_readPart := fun w h => List.mem_cons_of_mem _ (List.mem_append_left _ (List.mem_append_right _ (h)))
  refine lv_iload_n hx hb dX1_readPart_0 rfl (lv_at hl 1 rfl) ?_
  refine lv_iconst (v := nI 1) hx hb dX1_readPart_1 (by decide) ?_
  refine lv_iadd hx hb dX1_readPart_2 ?_
  refine zrw (nI_add _ _) ?_
  refine lv_iconst (v := nI 5) hx hb dX1_readPart_3 (by decide) ?_
  refine lv_icmp_ge (tgt := 18) hx hb dX1_readPart_4 (by decide) (fun c4_1 => ?_) (fun c4_1 => ?_)
  · have c4_1 : 5 ≤ 2 := (nI_leI (a := 5) (b := 2) (by omega) (by omega)).mp c4_1
    exact absurd c4_1 (by omega)
  · have c4_1 : ¬ (5 ≤ 2) := fun h9 => c4_1 ((nI_leI (a := 5) (b := 2) (by omega) (by omega)).mpr h9)
    refine lv_aload_n hx hb dX1_readPart_7 rfl (lv_at hl 0 rfl) ?_
    refine lv_iload_n hx hb dX1_readPart_8 rfl (lv_at hl 1 rfl) ?_
    refine lv_iconst (v := nI 1) hx hb dX1_readPart_9 (by decide) ?_
    refine lv_iadd hx hb dX1_readPart_10 ?_
    refine zrw (nI_add _ _) ?_
    refine lv_iload_n hx hb dX1_readPart_11 rfl (lv_at hl 2 rfl) ?_
    refine zci (wr := []) (va_runV (As := [.int (nI 2), .int (nI 1)]) (rest := []) ⟨hx, hb, hml, hown, hts⟩ (c_X1_readLevel_2_1 l D cI cJ ad bd h hl9 ht hc hst L u T TB p c C b q tl (by first | rfl | assumption | omega) (by first | rfl | assumption | omega) (by first | rfl | assumption | omega) (by first | rfl | assumption | omega) (by first | rfl | assumption | omega) (by first | rfl | assumption | omega) hR s.heap.size) (cwV 2 hts gX1_readPart_X1_readLevel rfl rfl rfl (by decide +kernel) ⟨Nat.le_of_ble_eq_true rfl, Nat.le_of_ble_eq_true rfl⟩) (zpVs hG hK hN hZ hP hD hS hA [0, 1, 2, 3] rfl (by decide) 0 rfl rfl rfl) rfl rfl hl.1 rfl (lv_room (Nat.le_of_ble_eq_true rfl)) dX1_readPart_12 ⟨Nat.zero_le _, Nat.zero_le _⟩) hP hD hS hA [0, 1, 2, 3] [] rfl rfl (by decide) (by decide) (fun r_4 w_3 H locs h_2 hP hD hS => ?_)
    obtain ⟨c9_5, C9_6, hq9_7, hx9_8, rfl, rfl⟩ := h_2
    have hP : va_P D vwCl [(h, .inr (1, [.ref hl9, .ref ht, .int (nI L), .ref (ad u), .int (nI q)])), (hl9, .inr (0, [.ref hc, .int (nI c9_5), .ref hst])), (hc, .inl (cI, 60, .inl C9_6)), (ht, .inl (cI, 60, .inl TB))] H := hP
    have hD : va_D AA [(h, .inr (1, [.ref hl9, .ref ht, .int (nI L), .ref (ad u), .int (nI q)])), (hl9, .inr (0, [.ref hc, .int (nI c9_5), .ref hst])), (hc, .inl (cI, 60, .inl C9_6)), (ht, .inl (cI, 60, .inl TB))] := hD
    refine lv_goto (tgt := 23) hx hb dX1_readPart_15 (by decide) ?_
    exact hret hP hD hS dX1_readPart_23 nar_bI (by exact ⟨_, _, hq9_7, hx9_8, rfl, rfl⟩)
set_option maxHeartbeats 4000000 in
set_option maxRecDepth 100000 in
theorem c_X1_readLevel_1_1 (l : Launch) (D : va_G) (cI cJ : ClassId) (ad : Nat → Nat) (bd : Nat → Nat) (h : Nat) (hl9 : Nat) (ht : Nat) (hc : Nat) (hst : Nat) (L : Nat) (u : Nat) (T : Nat → Nat) (TB : Nat → Int32) (p : Nat) (c : Nat) (C : Nat → Int32) (b : Bool) (q : Nat) (tl : zTks) (hL : L ≤ 60) (hu1 : u ≤ 1) (hT : ∀ i, i < L → T i < 256) (htb : ∀ i, i < L → TB i = nI (T i)) (hp : p ≤ L) (hcp : c ≤ p) (hR : zLS T L (zQ T L u 4) 4 p = (b, q, tl)) : zTi ad bd l yX1_readLevel wsX1_readLevel ({ frames := 56, cells := 0, slots := 0, locals := 1309 } : Room) D [(cI, .int), (cJ, .array .int)] [.ref h, .int (nI 1), .int (nI 1)] [(h, .inr (1, [.ref hl9, .ref ht, .int (nI L), .ref (ad u), .int (nI p)])), (hl9, .inr (0, [.ref hc, .int (nI c), .ref hst])), (hc, .inl (cI, 60, .inl C)), (ht, .inl (cI, 60, .inl TB))] (fun r w => ∃ (c9 : Nat) (C9 : Nat → Int32), c9 ≤ q ∧ (b = true → c9 = c + tl.length ∧ C9 = zapp C c tl) ∧ r = bI (b = true) ∧ w = [(h, .inr (1, [.ref hl9, .ref ht, .int (nI L), .ref (ad u), .int (nI q)])), (hl9, .inr (0, [.ref hc, .int (nI c9), .ref hst])), (hc, .inl (cI, 60, .inl C9)), (ht, .inl (cI, 60, .inl TB))]) := by
  refine zTi.start (cc := cX1_readLevel) (maxL := 6) (rt := .boolean) (by first | decide | decide +kernel) rfl (Nat.le_of_ble_eq_true rfl) ?_
  intro pg ev s mt args below meth cd ls AA QQ ⟨hx, hb, hml, hr, hlocks, hown, hts, hK, hN, hZ, hP, hD, hA, hS, hl⟩ hG hret
  have hown : s.vm.findClass RX1 = some mt.cls := hown
  have hl : lv_has ls 6 [(0, .ref h), (1, .int (nI 1)), (2, .int (nI 1))] := hl
  have hin0 : ∀ w ∈ wsX00, w ∈ wsX1_readLevel := fun w h => List.mem_cons_of_mem _ (List.mem_append_right _ (h))
  have hin1 : ∀ w ∈ wsX10, w ∈ wsX1_readLevel := fun w h => List.mem_cons_of_mem _ (List.mem_append_left _ (List.mem_append_right _ (h)))
  have hR : zLv T L 1 (zLS T L (zQ T L u 4) 3) p = (b, q, tl) := hR
  obtain ⟨b1, q1, t1, hR1⟩ : ∃ (b0 : Bool) (q0 : Nat) (t0 : zTks), zLS T L (zQ T L u 4) 3 p = (b0, q0, t0) := ⟨_, _, _, rfl⟩
  have hg1 := (zLS_gd (T := T) (zQ_gd (T := T) (L := L) (u := u) 4) 3) p (by omega)
  rw [hR1] at hg1
  obtain ⟨hga1, hgb1, hgc1⟩ : p ≤ q1 ∧ q1 ≤ L ∧ (b1 = true → p < q1 ∧ t1.length ≤ q1 - p ∧ zw1 t1) := hg1
  refine lv_aload_n hx hb dX1_readLevel_0 rfl (lv_at hl 0 rfl) ?_
  refine lv_iload_n hx hb dX1_readLevel_1 rfl (lv_at hl 1 rfl) ?_
  refine lv_iload_n hx hb dX1_readLevel_2 rfl (lv_at hl 2 rfl) ?_
  refine zci (wr := []) (va_runV (As := [.int (nI 1), .int (nI 1)]) (rest := []) ⟨hx, hb, hml, hown, hts⟩ (c_X1_readPart_1_1 l D cI cJ ad bd h hl9 ht hc hst L u T TB p c C b1 q1 t1 (by first | rfl | assumption | omega) (by first | rfl | assumption | omega) (by first | rfl | assumption | omega) (by first | rfl | assumption | omega) (by first | rfl | assumption | omega) (by first | rfl | assumption | omega) hR1 s.heap.size) (cwV 2 hts gX1_readLevel_X1_readPart rfl rfl rfl (by decide +kernel) ⟨Nat.le_of_ble_eq_true rfl, Nat.le_of_ble_eq_true rfl⟩) (zpVs hG hK hN hZ hP hD hS hA [0, 1, 2, 3] rfl (by decide) 0 rfl rfl rfl) rfl rfl hl.1 rfl (lv_room (Nat.le_of_ble_eq_true rfl)) dX1_readLevel_3 ⟨Nat.zero_le _, Nat.zero_le _⟩) hP hD hS hA [0, 1, 2, 3] [] rfl rfl (by decide) (by decide) (fun r_3 w_2 H locs h_1 hP hD hS => ?_)
  obtain ⟨c9_4, C9_5, hq9_6, hx9_7, rfl, rfl⟩ := h_1
  have hP : va_P D vwCl [(h, .inr (1, [.ref hl9, .ref ht, .int (nI L), .ref (ad u), .int (nI q1)])), (hl9, .inr (0, [.ref hc, .int (nI c9_4), .ref hst])), (hc, .inl (cI, 60, .inl C9_5)), (ht, .inl (cI, 60, .inl TB))] H := hP
  have hD : va_D AA [(h, .inr (1, [.ref hl9, .ref ht, .int (nI L), .ref (ad u), .int (nI q1)])), (hl9, .inr (0, [.ref hc, .int (nI c9_4), .ref hst])), (hc, .inl (cI, 60, .inl C9_5)), (ht, .inl (cI, 60, .inl TB))] := hD
  refine lv_if_ne (tgt := 11) hx hb dX1_readLevel_6 (by decide) (fun c6_8 => ?_) (fun c6_8 => ?_)
  · have c6_8 := bI_n0.mp c6_8
    obtain ⟨hgd1, hge1, hgf1⟩ := hgc1 c6_8
    obtain ⟨he1, hE1⟩ := hx9_7 c6_8
    subst he1; subst hE1
    have hz := zLv_tt hR hR1 c6_8
    refine lv_iload_n hx hb dX1_readLevel_11 rfl (lv_at hl 1 rfl) ?_
    refine lv_iconst (v := nI 2) hx hb dX1_readLevel_12 (by decide) ?_
    refine lv_icmp_ne (tgt := 20) hx hb dX1_readLevel_13 (by decide) (fun c13_9 => ?_) (fun c13_9 => ?_)
    · have c13_9 : ¬ (1 = 2) := fun h9 => c13_9 ((nI_eq (a := 1) (b := 2) (by omega) (by omega)).mpr h9)
      refine lv_bipush (v := nI 60) hx hb dX1_readLevel_20 (by decide) ?_
      refine lv_istore_n (lv' := [(3, .int (nI 60)), (0, .ref h), (1, .int (nI 1)), (2, .int (nI 1))]) hx hb dX1_readLevel_22 rfl hl (by decide) rfl (fun ls hl => ?_)
      refine lv_iconst (v := nI 0) hx hb dX1_readLevel_23 (by decide) ?_
      refine lv_istore (lv' := [(4, .int (nI 0)), (3, .int (nI 60)), (0, .ref h), (1, .int (nI 1)), (2, .int (nI 1))]) hx hb dX1_readLevel_24 hl (by decide) rfl (fun ls hl => ?_)
      have L_26 : ∀ (fu : Nat) (f : Nat) (pv : Nat) (ta : zTks) (i : Nat) (hn : f < fu) (hz : zct ta (zLp T L 1 (zLS T L (zQ T L u 4) 3) f pv) = (b, q, tl)) (hf : L - pv < f) (hpv : pv ≤ L) (hca : c + ta.length ≤ pv) (hi1 : i + 1 ≤ pv), ∀ (ls : Array Slot), lv_has ls 6 [(0, .ref h), (1, .int (nI 1)), (2, .int (nI 1)), (3, .int (nI 60)), (4, .int (nI i))] → ∀ (H : Heap) (locs : List Loc), va_P D vwCl [(h, .inr (1, [.ref hl9, .ref ht, .int (nI L), .ref (ad u), .int (nI pv)])), (hl9, .inr (0, [.ref hc, .int (nI ((c + ta.length))), .ref hst])), (hc, .inl (cI, 60, .inl (zapp C c ta))), (ht, .inl (cI, 60, .inl TB))] H → va_D AA [(h, .inr (1, [.ref hl9, .ref ht, .int (nI L), .ref (ad u), .int (nI pv)])), (hl9, .inr (0, [.ref hc, .int (nI ((c + ta.length))), .ref hst])), (hc, .inl (cI, 60, .inl (zapp C c ta))), (ht, .inl (cI, 60, .inl TB))] → va_S AA s.heap H locs → W pg l ev ({ frames := 56, cells := 0, slots := 0, locals := 1309 } : Room) s mt args below meth cd H locs 0 0 QQ (F0 mt 26 ls []) := by
        intro fu
        induction fu with
        | zero =>
          intro  f pv ta i  hn
          exact absurd hn (by omega)
        | succ fu ih_26 =>
          intro  f pv ta i  hn hz hf hpv hca hi1 ls hl H locs hP hD hS
          obtain ⟨f1, rfl⟩ : ∃ f1, f = f1 + 1 := ⟨f - 1, by omega⟩
          refine lv_iload hx hb dX1_readLevel_26 (lv_at hl 4 rfl) ?_
          refine lv_iload_n hx hb dX1_readLevel_28 rfl (lv_at hl 3 rfl) ?_
          refine lv_icmp_ge (tgt := 107) hx hb dX1_readLevel_29 (by decide) (fun c29_10 => ?_) (fun c29_10 => ?_)
          · have c29_10 : 60 ≤ i := (nI_leI (a := 60) (b := i) (by omega) (by omega)).mp c29_10
            exact absurd c29_10 (by omega)
          · have c29_10 : ¬ (60 ≤ i) := fun h9 => c29_10 ((nI_leI (a := 60) (b := i) (by omega) (by omega)).mpr h9)
            refine lv_aload_n hx hb dX1_readLevel_32 rfl (lv_at hl 0 rfl) ?_
            refine va_get (ci := 1) (v := .int (nI pv)) (C := RX1) (T := TX1) (N := 5) hx hb hts hin1 hown hK hP 0 rfl rfl 4 (by decide) (hts (.fieldLink RX1 32 "UpAllRound$Reader" "place" "I") (List.mem_of_getElem? (i := 1) rfl)) (fun _ h9 => h9) rfl dX1_readLevel_33 ?_
            refine lv_aload_n hx hb dX1_readLevel_36 rfl (lv_at hl 0 rfl) ?_
            refine va_get (ci := 1) (v := .int (nI L)) (C := RX1) (T := TX1) (N := 5) hx hb hts hin1 hown hK hP 0 rfl rfl 2 (by decide) (hts (.fieldLink RX1 22 "UpAllRound$Reader" "length" "I") (List.mem_of_getElem? (i := 2) rfl)) (fun _ h9 => h9) rfl dX1_readLevel_37 ?_
            refine lv_icmp_ge (tgt := 107) hx hb dX1_readLevel_40 (by decide) (fun c40_11 => ?_) (fun c40_11 => ?_)
            · have c40_11 : L ≤ pv := (nI_leI (a := L) (b := pv) (by omega) (by omega)).mp c40_11
              refine lv_iconst (v := nI 1) hx hb dX1_readLevel_107 (by decide) ?_
              exact hret hP hD hS dX1_readLevel_108 rfl (by obtain ⟨e1, e2, e3⟩ := zLe (f := f1) hz (by omega); subst e1; subst e2; subst e3; exact ⟨_, _, by omega, fun _ => ⟨rfl, rfl⟩, (bI_t rfl).symm, rfl⟩)
            · have c40_11 : ¬ (L ≤ pv) := fun h9 => c40_11 ((nI_leI (a := L) (b := pv) (by omega) (by omega)).mpr h9)
              refine lv_aload_n hx hb dX1_readLevel_43 rfl (lv_at hl 0 rfl) ?_
              refine va_get (ci := 1) (v := .ref ht) (C := RX1) (T := TX1) (N := 5) hx hb hts hin1 hown hK hP 0 rfl rfl 1 (by decide) (hts (.fieldLink RX1 18 "UpAllRound$Reader" "tape" "[I") (List.mem_of_getElem? (i := 3) rfl)) (fun _ h9 => h9) rfl dX1_readLevel_44 ?_
              refine lv_aload_n hx hb dX1_readLevel_47 rfl (lv_at hl 0 rfl) ?_
              refine va_get (ci := 1) (v := .int (nI pv)) (C := RX1) (T := TX1) (N := 5) hx hb hts hin1 hown hK hP 0 rfl rfl 4 (by decide) (hts (.fieldLink RX1 32 "UpAllRound$Reader" "place" "I") (List.mem_of_getElem? (i := 1) rfl)) (fun _ h9 => h9) rfl dX1_readLevel_48 ?_
              refine zald (t := pv) hx hb hK hP 3 rfl (by omega) (by decide) dX1_readLevel_51 ?_
              refine zrw (htb pv (by omega)) ?_
              refine zcsE (va_runS (As := [.int (nI (T pv))]) (rest := []) ⟨hx, hb, hml, hown, hts⟩ (c_X1_levelOf l D cI cJ (T pv) (hT pv (by omega)) H.size) (va_cwS 1 hts gX1_readLevel_X1_levelOf rfl rfl rfl (by decide +kernel) ⟨Nat.le_of_ble_eq_true rfl, Nat.le_of_ble_eq_true rfl⟩) (zpS hK hN hZ hP hD hS hA [] rfl (by decide)) rfl rfl hl.1 rfl (lv_room (Nat.le_of_ble_eq_true rfl)) dX1_readLevel_52 ⟨Nat.zero_le _, Nat.zero_le _⟩) ?_
              refine lv_iload_n hx hb dX1_readLevel_55 rfl (lv_at hl 1 rfl) ?_
              refine lv_icmp_ne (tgt := 107) hx hb dX1_readLevel_56 (by decide) (fun c56_12 => ?_) (fun c56_12 => ?_)
              · have c56_12 : ¬ (((zlv (T pv))) = 1) := fun h9 => c56_12 ((nI_eq (a := (zlv (T pv))) (b := 1) (by have h91 := zlv_le (T pv); omega) (by have h91 := zlv_le (T pv); omega)).mpr h9)
                refine lv_iconst (v := nI 1) hx hb dX1_readLevel_107 (by decide) ?_
                exact hret hP hD hS dX1_readLevel_108 rfl (by obtain ⟨e1, e2, e3⟩ := zLe (f := f1) hz (by omega); subst e1; subst e2; subst e3; exact ⟨_, _, by omega, fun _ => ⟨rfl, rfl⟩, (bI_t rfl).symm, rfl⟩)
              · have c56_12 : ((zlv (T pv))) = 1 := (nI_eq (a := (zlv (T pv))) (b := 1) (by have h91 := zlv_le (T pv); omega) (by have h91 := zlv_le (T pv); omega)).mp c56_12
                refine lv_aload_n hx hb dX1_readLevel_59 rfl (lv_at hl 0 rfl) ?_
                refine va_get (ci := 1) (v := .ref ht) (C := RX1) (T := TX1) (N := 5) hx hb hts hin1 hown hK hP 0 rfl rfl 1 (by decide) (hts (.fieldLink RX1 18 "UpAllRound$Reader" "tape" "[I") (List.mem_of_getElem? (i := 3) rfl)) (fun _ h9 => h9) rfl dX1_readLevel_60 ?_
                refine lv_aload_n hx hb dX1_readLevel_63 rfl (lv_at hl 0 rfl) ?_
                refine va_get (ci := 1) (v := .int (nI pv)) (C := RX1) (T := TX1) (N := 5) hx hb hts hin1 hown hK hP 0 rfl rfl 4 (by decide) (hts (.fieldLink RX1 32 "UpAllRound$Reader" "place" "I") (List.mem_of_getElem? (i := 1) rfl)) (fun _ h9 => h9) rfl dX1_readLevel_64 ?_
                refine zald (t := pv) hx hb hK hP 3 rfl (by omega) (by decide) dX1_readLevel_67 ?_
                refine zrw (htb pv (by omega)) ?_
                refine lv_istore (lv' := [(5, .int (nI (T pv))), (0, .ref h), (1, .int (nI 1)), (2, .int (nI 1)), (3, .int (nI 60)), (4, .int (nI i))]) hx hb dX1_readLevel_68 hl (by decide) rfl (fun ls hl => ?_)
                refine lv_aload_n hx hb dX1_readLevel_70 rfl (lv_at hl 1 rfl) ?_
                refine lv_dup hx hb dX1_readLevel_71 rfl ?_
                refine va_get (ci := 1) (v := .int (nI pv)) (C := RX1) (T := TX1) (N := 5) hx hb hts hin1 hown hK hP 0 rfl rfl 4 (by decide) (hts (.fieldLink RX1 32 "UpAllRound$Reader" "place" "I") (List.mem_of_getElem? (i := 1) rfl)) (fun _ h9 => h9) rfl dX1_readLevel_72 ?_
                refine lv_iconst (v := nI 1) hx hb dX1_readLevel_75 (by decide) ?_
                refine lv_iadd hx hb dX1_readLevel_76 ?_
                refine zrw (nI_add _ _) ?_
                refine va_put (ci := 1) (v := .int (nI (pv + 1))) (ty := .int) (C := RX1) (T := TX1) (N := 5) hx hb hts hin1 tyX1 tyX1_ok nmX1 hown hK hP hD hS 0 rfl rfl 4 (by decide) (hts (.fieldLink RX1 32 "UpAllRound$Reader" "place" "I") (List.mem_of_getElem? (i := 1) rfl)) (fun _ h9 => h9) rfl (by decide +kernel) rfl rfl (Nat.le_of_ble_eq_true rfl) dX1_readLevel_77 (fun H locs hP hD hS => ?_)
                have hP : va_P D vwCl [(h, .inr (1, [.ref hl9, .ref ht, .int (nI L), .ref (ad u), .int (nI (pv + 1))])), (hl9, .inr (0, [.ref hc, .int (nI ((c + ta.length))), .ref hst])), (hc, .inl (cI, 60, .inl (zapp C c ta))), (ht, .inl (cI, 60, .inl TB))] H := hP
                have hD : va_D AA [(h, .inr (1, [.ref hl9, .ref ht, .int (nI L), .ref (ad u), .int (nI (pv + 1))])), (hl9, .inr (0, [.ref hc, .int (nI ((c + ta.length))), .ref hst])), (hc, .inl (cI, 60, .inl (zapp C c ta))), (ht, .inl (cI, 60, .inl TB))] := hD
                obtain ⟨b2, q2, t2, hR2⟩ : ∃ (b0 : Bool) (q0 : Nat) (t0 : zTks), zLS T L (zQ T L u 4) 3 (pv + 1) = (b0, q0, t0) := ⟨_, _, _, rfl⟩
                have hg2 := (zLS_gd (T := T) (zQ_gd (T := T) (L := L) (u := u) 4) 3) (pv + 1) (by omega)
                rw [hR2] at hg2
                obtain ⟨hga2, hgb2, hgc2⟩ : (pv + 1) ≤ q2 ∧ q2 ≤ L ∧ (b2 = true → (pv + 1) < q2 ∧ t2.length ≤ q2 - (pv + 1) ∧ zw1 t2) := hg2
                refine lv_aload_n hx hb dX1_readLevel_80 rfl (lv_at hl 1 rfl) ?_
                refine lv_iload_n hx hb dX1_readLevel_81 rfl (lv_at hl 2 rfl) ?_
                refine lv_iload_n hx hb dX1_readLevel_82 rfl (lv_at hl 3 rfl) ?_
                refine zci (wr := []) (va_runV (As := [.int (nI 1), .int (nI 1)]) (rest := []) ⟨hx, hb, hml, hown, hts⟩ (c_X1_readPart_1_1 l D cI cJ ad bd h hl9 ht hc hst L u T TB (pv + 1) ((c + ta.length)) (zapp C c ta) b2 q2 t2 (by first | rfl | assumption | omega) (by first | rfl | assumption | omega) (by first | rfl | assumption | omega) (by first | rfl | assumption | omega) (by omega) (by omega) hR2 H.size) (cwV 2 hts gX1_readLevel_X1_readPart rfl rfl rfl (by decide +kernel) ⟨Nat.le_of_ble_eq_true rfl, Nat.le_of_ble_eq_true rfl⟩) (zpVs hG hK hN hZ hP hD hS hA [0, 1, 2, 3] rfl (by decide) 0 rfl rfl rfl) rfl rfl hl.1 rfl (lv_room (Nat.le_of_ble_eq_true rfl)) dX1_readLevel_83 ⟨Nat.zero_le _, Nat.zero_le _⟩) hP hD hS hA [0, 1, 2, 3] [] rfl rfl (by decide) (by decide) (fun r_15 w_14 H locs h_13 hP hD hS => ?_)
                obtain ⟨c9_16, C9_17, hq9_18, hx9_19, rfl, rfl⟩ := h_13
                have hP : va_P D vwCl [(h, .inr (1, [.ref hl9, .ref ht, .int (nI L), .ref (ad u), .int (nI q2)])), (hl9, .inr (0, [.ref hc, .int (nI c9_16), .ref hst])), (hc, .inl (cI, 60, .inl C9_17)), (ht, .inl (cI, 60, .inl TB))] H := hP
                have hD : va_D AA [(h, .inr (1, [.ref hl9, .ref ht, .int (nI L), .ref (ad u), .int (nI q2)])), (hl9, .inr (0, [.ref hc, .int (nI c9_16), .ref hst])), (hc, .inl (cI, 60, .inl C9_17)), (ht, .inl (cI, 60, .inl TB))] := hD
                refine lv_if_ne (tgt := 91) hx hb dX1_readLevel_86 (by decide) (fun c86_20 => ?_) (fun c86_20 => ?_)
                · have c86_20 := bI_n0.mp c86_20
                  obtain ⟨hgd2, hge2, hgf2⟩ := hgc2 c86_20
                  obtain ⟨he2, hE2⟩ := hx9_19 c86_20
                  subst he2; subst hE2
                  refine lv_aload_n hx hb dX1_readLevel_91 rfl (lv_at hl 1 rfl) ?_
                  refine va_get (ci := 1) (v := .ref hl9) (C := RX1) (T := TX1) (N := 5) hx hb hts hin1 hown hK hP 0 rfl rfl 0 (by decide) (hts (.fieldLink RX1 12 "UpAllRound$Reader" "law" "LUpAllRound$Law;") (List.mem_of_getElem? (i := 4) rfl)) (fun _ h9 => h9) rfl dX1_readLevel_92 ?_
                  refine lv_iload hx hb dX1_readLevel_95 (lv_at hl 0 rfl) ?_
                  refine lv_ineg hx hb dX1_readLevel_97 ?_
                  refine zcv (wr := [(h, .inr (1, [.ref hl9, .ref ht, .int (nI L), .ref (ad u), .int (nI q2)])), (ht, .inl (cI, 60, .inl TB))]) (va_runVN (As := [.int (-(nI (T pv)))]) (rest := []) ⟨hx, hb, hml, hown, hts⟩ (c_X0_add l D cI cJ hl9 hc hst ((c + ta.length + t2.length)) (zapp (zapp C c ta) (c + ta.length) t2) (-(nI (T pv))) (by omega) H.size) ⟨va_cnB 1 hts gX1_readLevel_X0_add_n61 rfl rfl rfl (hN (.methodLinkNest "UpAllRound$Reader" 61 yX0_add "UpAllRound") (List.mem_of_getElem? (i := 38) rfl)) (hts (.initialized RX0) (List.mem_of_getElem? (i := 13) rfl)) (by decide +kernel) ⟨Nat.le_of_ble_eq_true rfl, Nat.le_of_ble_eq_true rfl⟩, (hts (.instanceMethod yX0_add) (List.mem_of_getElem? (i := 12) rfl)), (hts (.selects RX0 yX0_add yX0_add) (List.mem_of_getElem? (i := 14) rfl))⟩ (zpV hK hN hZ hP hD hS hA [1, 2] rfl (by decide) 1 rfl rfl rfl) rfl rfl hl.1 rfl (lv_room (Nat.le_of_ble_eq_true rfl)) dX1_readLevel_98 ⟨Nat.zero_le _, Nat.zero_le _⟩) hP hD hS hA [1, 2] [0, 3] rfl rfl (by decide) (by decide) (fun w_22 H locs h_21 hP hD hS => ?_)
                  obtain rfl := h_21
                  have hP : va_P D vwCl [(h, .inr (1, [.ref hl9, .ref ht, .int (nI L), .ref (ad u), .int (nI q2)])), (ht, .inl (cI, 60, .inl TB)), (hl9, .inr (0, [.ref hc, .int (nI (((c + ta.length + t2.length)) + 1)), .ref hst])), (hc, .inl (cI, 60, .inl (upd (zapp (zapp C c ta) (c + ta.length) t2) ((c + ta.length + t2.length)) (-(nI (T pv))))))] H := hP
                  have hD : va_D AA [(h, .inr (1, [.ref hl9, .ref ht, .int (nI L), .ref (ad u), .int (nI q2)])), (ht, .inl (cI, 60, .inl TB)), (hl9, .inr (0, [.ref hc, .int (nI (((c + ta.length + t2.length)) + 1)), .ref hst])), (hc, .inl (cI, 60, .inl (upd (zapp (zapp C c ta) (c + ta.length) t2) ((c + ta.length + t2.length)) (-(nI (T pv))))))] := hD
                  refine lv_iinc (v := nI (i + 1)) (lv' := [(4, .int (nI (i + 1))), (5, .int (nI (T pv))), (0, .ref h), (1, .int (nI 1)), (2, .int (nI 1)), (3, .int (nI 60))]) hx hb dX1_readLevel_101 hl (k := 5) rfl (nI_add _ _) (by decide) rfl (fun ls hl => ?_)
                  refine lv_goto (tgt := 26) hx hb dX1_readLevel_104 (by decide) ?_
                  rw [show -(nI (T pv)) = zcode (3, T pv) from rfl, zapp1, zlen1 (t := (3, T pv))] at hP hD
                  exact ih_26   f1 q2 ((ta ++ (t2 ++ [(3, T pv)]))) ((i + 1)) (by omega) (zLt (by decide) hz ⟨by omega, by omega⟩ hR2 (by assumption)) (by omega) (by omega) (by rw [← zlen1]; omega) (by omega) ls (lv_sub hl [2, 3, 4, 5, 0] rfl) H locs (hP.sub [0, 2, 3, 1] rfl) (hD.sub [0, 2, 3, 1] (by decide) rfl) hS
                · have c86_20 := bI_0.mp c86_20
                  refine lv_iconst (v := nI 0) hx hb dX1_readLevel_89 (by decide) ?_
                  exact hret hP hD hS dX1_readLevel_90 rfl (by obtain ⟨e1, e2⟩ := zLf hz ⟨by omega, by omega⟩ hR2 (by assumption); subst e1; subst e2; exact ⟨_, _, hq9_18, fun h9 => (by cases h9), (bI_f (by decide)).symm, rfl⟩)
      exact L_26 62  61 q1 t1 0 (by omega) hz (by omega) (by omega) (by omega) (by omega) ls (lv_sub hl [2, 3, 4, 1, 0] rfl) _ _ hP hD hS
    · have c13_9 : 1 = 2 := (nI_eq (a := 1) (b := 2) (by omega) (by omega)).mp c13_9
      exact absurd c13_9 (by omega)
  · have c6_8 := bI_0.mp c6_8
    refine lv_iconst (v := nI 0) hx hb dX1_readLevel_9 (by decide) ?_
    exact hret hP hD hS dX1_readLevel_10 rfl (by obtain ⟨e1, e2⟩ := zLv_ff hR hR1 (by assumption); subst e1; subst e2; exact ⟨_, _, hq9_6, fun h9 => (by cases h9), (bI_f (by decide)).symm, rfl⟩)
set_option maxHeartbeats 4000000 in
set_option maxRecDepth 100000 in
theorem c_X1_readPart_0_1 (l : Launch) (D : va_G) (cI cJ : ClassId) (ad : Nat → Nat) (bd : Nat → Nat) (h : Nat) (hl9 : Nat) (ht : Nat) (hc : Nat) (hst : Nat) (L : Nat) (u : Nat) (T : Nat → Nat) (TB : Nat → Int32) (p : Nat) (c : Nat) (C : Nat → Int32) (b : Bool) (q : Nat) (tl : zTks) (hL : L ≤ 60) (hu1 : u ≤ 1) (hT : ∀ i, i < L → T i < 256) (htb : ∀ i, i < L → TB i = nI (T i)) (hp : p ≤ L) (hcp : c ≤ p) (hR : zLS T L (zQ T L u 4) 4 p = (b, q, tl)) : zTi ad bd l yX1_readPart wsX1_readPart ({ frames := 57, cells := 0, slots := 0, locals := 1334 } : Room) D [(cI, .int), (cJ, .array .int)] [.ref h, .int (nI 0), .int (nI 1)] [(h, .inr (1, [.ref hl9, .ref ht, .int (nI L), .ref (ad u), .int (nI p)])), (hl9, .inr (0, [.ref hc, .int (nI c), .ref hst])), (hc, .inl (cI, 60, .inl C)), (ht, .inl (cI, 60, .inl TB))] (fun r w => ∃ (c9 : Nat) (C9 : Nat → Int32), c9 ≤ q ∧ (b = true → c9 = c + tl.length ∧ C9 = zapp C c tl) ∧ r = bI (b = true) ∧ w = [(h, .inr (1, [.ref hl9, .ref ht, .int (nI L), .ref (ad u), .int (nI q)])), (hl9, .inr (0, [.ref hc, .int (nI c9), .ref hst])), (hc, .inl (cI, 60, .inl C9)), (ht, .inl (cI, 60, .inl TB))]) := by
  refine zTi.start (cc := cX1_readPart) (maxL := 3) (rt := .boolean) (by first | decide | decide +kernel) rfl (Nat.le_of_ble_eq_true rfl) ?_
  intro pg ev s mt args below meth cd ls AA QQ ⟨hx, hb, hml, hr, hlocks, hown, hts, hK, hN, hZ, hP, hD, hA, hS, hl⟩ hG hret
  have hown : s.vm.findClass RX1 = some mt.cls := hown
  have hl : lv_has ls 3 [(0, .ref h), (1, .int (nI 0)), (2, .int (nI 1))] := hl
  have hin0 : ∀ w ∈ wsX00, w ∈ wsX1_readPart := fun w h => List.mem_cons_of_mem _ (List.mem_append_right _ (h))
  have hin1 : ∀ w ∈ wsX10, w ∈ wsX1_readPart := fun w h => List.mem_cons_of_mem _ (List.mem_append_left _ (List.mem_append_right _ (h)))
  refine lv_iload_n hx hb dX1_readPart_0 rfl (lv_at hl 1 rfl) ?_
  refine lv_iconst (v := nI 1) hx hb dX1_readPart_1 (by decide) ?_
  refine lv_iadd hx hb dX1_readPart_2 ?_
  refine zrw (nI_add _ _) ?_
  refine lv_iconst (v := nI 5) hx hb dX1_readPart_3 (by decide) ?_
  refine lv_icmp_ge (tgt := 18) hx hb dX1_readPart_4 (by decide) (fun c4_1 => ?_) (fun c4_1 => ?_)
  · have c4_1 : 5 ≤ 1 := (nI_leI (a := 5) (b := 1) (by omega) (by omega)).mp c4_1
    exact absurd c4_1 (by omega)
  · have c4_1 : ¬ (5 ≤ 1) := fun h9 => c4_1 ((nI_leI (a := 5) (b := 1) (by omega) (by omega)).mpr h9)
    refine lv_aload_n hx hb dX1_readPart_7 rfl (lv_at hl 0 rfl) ?_
    refine lv_iload_n hx hb dX1_readPart_8 rfl (lv_at hl 1 rfl) ?_
    refine lv_iconst (v := nI 1) hx hb dX1_readPart_9 (by decide) ?_
    refine lv_iadd hx hb dX1_readPart_10 ?_
    refine zrw (nI_add _ _) ?_
    refine lv_iload_n hx hb dX1_readPart_11 rfl (lv_at hl 2 rfl) ?_
    refine zci (wr := []) (va_runV (As := [.int (nI 1), .int (nI 1)]) (rest := []) ⟨hx, hb, hml, hown, hts⟩ (c_X1_readLevel_1_1 l D cI cJ ad bd h hl9 ht hc hst L u T TB p c C b q tl (by first | rfl | assumption | omega) (by first | rfl | assumption | omega) (by first | rfl | assumption | omega) (by first | rfl | assumption | omega) (by first | rfl | assumption | omega) (by first | rfl | assumption | omega) hR s.heap.size) (cwV 2 hts gX1_readPart_X1_readLevel rfl rfl rfl (by decide +kernel) ⟨Nat.le_of_ble_eq_true rfl, Nat.le_of_ble_eq_true rfl⟩) (zpVs hG hK hN hZ hP hD hS hA [0, 1, 2, 3] rfl (by decide) 0 rfl rfl rfl) rfl rfl hl.1 rfl (lv_room (Nat.le_of_ble_eq_true rfl)) dX1_readPart_12 ⟨Nat.zero_le _, Nat.zero_le _⟩) hP hD hS hA [0, 1, 2, 3] [] rfl rfl (by decide) (by decide) (fun r_4 w_3 H locs h_2 hP hD hS => ?_)
    obtain ⟨c9_5, C9_6, hq9_7, hx9_8, rfl, rfl⟩ := h_2
    have hP : va_P D vwCl [(h, .inr (1, [.ref hl9, .ref ht, .int (nI L), .ref (ad u), .int (nI q)])), (hl9, .inr (0, [.ref hc, .int (nI c9_5), .ref hst])), (hc, .inl (cI, 60, .inl C9_6)), (ht, .inl (cI, 60, .inl TB))] H := hP
    have hD : va_D AA [(h, .inr (1, [.ref hl9, .ref ht, .int (nI L), .ref (ad u), .int (nI q)])), (hl9, .inr (0, [.ref hc, .int (nI c9_5), .ref hst])), (hc, .inl (cI, 60, .inl C9_6)), (ht, .inl (cI, 60, .inl TB))] := hD
    refine lv_goto (tgt := 23) hx hb dX1_readPart_15 (by decide) ?_
    exact hret hP hD hS dX1_readPart_23 nar_bI (by exact ⟨_, _, hq9_7, hx9_8, rfl, rfl⟩)
set_option maxHeartbeats 4000000 in
set_option maxRecDepth 100000 in
theorem c_X1_readLevel_0_1 (l : Launch) (D : va_G) (cI cJ : ClassId) (ad : Nat → Nat) (bd : Nat → Nat) (h : Nat) (hl9 : Nat) (ht : Nat) (hc : Nat) (hst : Nat) (L : Nat) (u : Nat) (T : Nat → Nat) (TB : Nat → Int32) (p : Nat) (c : Nat) (C : Nat → Int32) (b : Bool) (q : Nat) (tl : zTks) (hL : L ≤ 60) (hu1 : u ≤ 1) (hT : ∀ i, i < L → T i < 256) (htb : ∀ i, i < L → TB i = nI (T i)) (hp : p ≤ L) (hcp : c ≤ p) (hR : zLS T L (zQ T L u 4) 5 p = (b, q, tl)) : zTi ad bd l yX1_readLevel wsX1_readLevel ({ frames := 58, cells := 0, slots := 0, locals := 1356 } : Room) D [(cI, .int), (cJ, .array .int)] [.ref h, .int (nI 0), .int (nI 1)] [(h, .inr (1, [.ref hl9, .ref ht, .int (nI L), .ref (ad u), .int (nI p)])), (hl9, .inr (0, [.ref hc, .int (nI c), .ref hst])), (hc, .inl (cI, 60, .inl C)), (ht, .inl (cI, 60, .inl TB))] (fun r w => ∃ (c9 : Nat) (C9 : Nat → Int32), c9 ≤ q ∧ (b = true → c9 = c + tl.length ∧ C9 = zapp C c tl) ∧ r = bI (b = true) ∧ w = [(h, .inr (1, [.ref hl9, .ref ht, .int (nI L), .ref (ad u), .int (nI q)])), (hl9, .inr (0, [.ref hc, .int (nI c9), .ref hst])), (hc, .inl (cI, 60, .inl C9)), (ht, .inl (cI, 60, .inl TB))]) := by
  refine zTi.start (cc := cX1_readLevel) (maxL := 6) (rt := .boolean) (by first | decide | decide +kernel) rfl (Nat.le_of_ble_eq_true rfl) ?_
  intro pg ev s mt args below meth cd ls AA QQ ⟨hx, hb, hml, hr, hlocks, hown, hts, hK, hN, hZ, hP, hD, hA, hS, hl⟩ hG hret
  have hown : s.vm.findClass RX1 = some mt.cls := hown
  have hl : lv_has ls 6 [(0, .ref h), (1, .int (nI 0)), (2, .int (nI 1))] := hl
  have hin0 : ∀ w ∈ wsX00, w ∈ wsX1_readLevel := fun w h => List.mem_cons_of_mem _ (List.mem_append_right _ (h))
  have hin1 : ∀ w ∈ wsX10, w ∈ wsX1_readLevel := fun w h => List.mem_cons_of_mem _ (List.mem_append_left _ (List.mem_append_right _ (h)))
  have hR : zLv T L 0 (zLS T L (zQ T L u 4) 4) p = (b, q, tl) := hR
  obtain ⟨b1, q1, t1, hR1⟩ : ∃ (b0 : Bool) (q0 : Nat) (t0 : zTks), zLS T L (zQ T L u 4) 4 p = (b0, q0, t0) := ⟨_, _, _, rfl⟩
  have hg1 := (zLS_gd (T := T) (zQ_gd (T := T) (L := L) (u := u) 4) 4) p (by omega)
  rw [hR1] at hg1
  obtain ⟨hga1, hgb1, hgc1⟩ : p ≤ q1 ∧ q1 ≤ L ∧ (b1 = true → p < q1 ∧ t1.length ≤ q1 - p ∧ zw1 t1) := hg1
  refine lv_aload_n hx hb dX1_readLevel_0 rfl (lv_at hl 0 rfl) ?_
  refine lv_iload_n hx hb dX1_readLevel_1 rfl (lv_at hl 1 rfl) ?_
  refine lv_iload_n hx hb dX1_readLevel_2 rfl (lv_at hl 2 rfl) ?_
  refine zci (wr := []) (va_runV (As := [.int (nI 0), .int (nI 1)]) (rest := []) ⟨hx, hb, hml, hown, hts⟩ (c_X1_readPart_0_1 l D cI cJ ad bd h hl9 ht hc hst L u T TB p c C b1 q1 t1 (by first | rfl | assumption | omega) (by first | rfl | assumption | omega) (by first | rfl | assumption | omega) (by first | rfl | assumption | omega) (by first | rfl | assumption | omega) (by first | rfl | assumption | omega) hR1 s.heap.size) (cwV 2 hts gX1_readLevel_X1_readPart rfl rfl rfl (by decide +kernel) ⟨Nat.le_of_ble_eq_true rfl, Nat.le_of_ble_eq_true rfl⟩) (zpVs hG hK hN hZ hP hD hS hA [0, 1, 2, 3] rfl (by decide) 0 rfl rfl rfl) rfl rfl hl.1 rfl (lv_room (Nat.le_of_ble_eq_true rfl)) dX1_readLevel_3 ⟨Nat.zero_le _, Nat.zero_le _⟩) hP hD hS hA [0, 1, 2, 3] [] rfl rfl (by decide) (by decide) (fun r_3 w_2 H locs h_1 hP hD hS => ?_)
  obtain ⟨c9_4, C9_5, hq9_6, hx9_7, rfl, rfl⟩ := h_1
  have hP : va_P D vwCl [(h, .inr (1, [.ref hl9, .ref ht, .int (nI L), .ref (ad u), .int (nI q1)])), (hl9, .inr (0, [.ref hc, .int (nI c9_4), .ref hst])), (hc, .inl (cI, 60, .inl C9_5)), (ht, .inl (cI, 60, .inl TB))] H := hP
  have hD : va_D AA [(h, .inr (1, [.ref hl9, .ref ht, .int (nI L), .ref (ad u), .int (nI q1)])), (hl9, .inr (0, [.ref hc, .int (nI c9_4), .ref hst])), (hc, .inl (cI, 60, .inl C9_5)), (ht, .inl (cI, 60, .inl TB))] := hD
  refine lv_if_ne (tgt := 11) hx hb dX1_readLevel_6 (by decide) (fun c6_8 => ?_) (fun c6_8 => ?_)
  · have c6_8 := bI_n0.mp c6_8
    obtain ⟨hgd1, hge1, hgf1⟩ := hgc1 c6_8
    obtain ⟨he1, hE1⟩ := hx9_7 c6_8
    subst he1; subst hE1
    have hz := zLv_tt hR hR1 c6_8
    refine lv_iload_n hx hb dX1_readLevel_11 rfl (lv_at hl 1 rfl) ?_
    refine lv_iconst (v := nI 2) hx hb dX1_readLevel_12 (by decide) ?_
    refine lv_icmp_ne (tgt := 20) hx hb dX1_readLevel_13 (by decide) (fun c13_9 => ?_) (fun c13_9 => ?_)
    · have c13_9 : ¬ (0 = 2) := fun h9 => c13_9 ((nI_eq (a := 0) (b := 2) (by omega) (by omega)).mpr h9)
      refine lv_bipush (v := nI 60) hx hb dX1_readLevel_20 (by decide) ?_
      refine lv_istore_n (lv' := [(3, .int (nI 60)), (0, .ref h), (1, .int (nI 0)), (2, .int (nI 1))]) hx hb dX1_readLevel_22 rfl hl (by decide) rfl (fun ls hl => ?_)
      refine lv_iconst (v := nI 0) hx hb dX1_readLevel_23 (by decide) ?_
      refine lv_istore (lv' := [(4, .int (nI 0)), (3, .int (nI 60)), (0, .ref h), (1, .int (nI 0)), (2, .int (nI 1))]) hx hb dX1_readLevel_24 hl (by decide) rfl (fun ls hl => ?_)
      have L_26 : ∀ (fu : Nat) (f : Nat) (pv : Nat) (ta : zTks) (i : Nat) (hn : f < fu) (hz : zct ta (zLp T L 0 (zLS T L (zQ T L u 4) 4) f pv) = (b, q, tl)) (hf : L - pv < f) (hpv : pv ≤ L) (hca : c + ta.length ≤ pv) (hi1 : i + 1 ≤ pv), ∀ (ls : Array Slot), lv_has ls 6 [(0, .ref h), (1, .int (nI 0)), (2, .int (nI 1)), (3, .int (nI 60)), (4, .int (nI i))] → ∀ (H : Heap) (locs : List Loc), va_P D vwCl [(h, .inr (1, [.ref hl9, .ref ht, .int (nI L), .ref (ad u), .int (nI pv)])), (hl9, .inr (0, [.ref hc, .int (nI ((c + ta.length))), .ref hst])), (hc, .inl (cI, 60, .inl (zapp C c ta))), (ht, .inl (cI, 60, .inl TB))] H → va_D AA [(h, .inr (1, [.ref hl9, .ref ht, .int (nI L), .ref (ad u), .int (nI pv)])), (hl9, .inr (0, [.ref hc, .int (nI ((c + ta.length))), .ref hst])), (hc, .inl (cI, 60, .inl (zapp C c ta))), (ht, .inl (cI, 60, .inl TB))] → va_S AA s.heap H locs → W pg l ev ({ frames := 58, cells := 0, slots := 0, locals := 1356 } : Room) s mt args below meth cd H locs 0 0 QQ (F0 mt 26 ls []) := by
        intro fu
        induction fu with
        | zero =>
          intro  f pv ta i  hn
          exact absurd hn (by omega)
        | succ fu ih_26 =>
          intro  f pv ta i  hn hz hf hpv hca hi1 ls hl H locs hP hD hS
          obtain ⟨f1, rfl⟩ : ∃ f1, f = f1 + 1 := ⟨f - 1, by omega⟩
          refine lv_iload hx hb dX1_readLevel_26 (lv_at hl 4 rfl) ?_
          refine lv_iload_n hx hb dX1_readLevel_28 rfl (lv_at hl 3 rfl) ?_
          refine lv_icmp_ge (tgt := 107) hx hb dX1_readLevel_29 (by decide) (fun c29_10 => ?_) (fun c29_10 => ?_)
          · have c29_10 : 60 ≤ i := (nI_leI (a := 60) (b := i) (by omega) (by omega)).mp c29_10
            exact absurd c29_10 (by omega)
          · have c29_10 : ¬ (60 ≤ i) := fun h9 => c29_10 ((nI_leI (a := 60) (b := i) (by omega) (by omega)).mpr h9)
            refine lv_aload_n hx hb dX1_readLevel_32 rfl (lv_at hl 0 rfl) ?_
            refine va_get (ci := 1) (v := .int (nI pv)) (C := RX1) (T := TX1) (N := 5) hx hb hts hin1 hown hK hP 0 rfl rfl 4 (by decide) (hts (.fieldLink RX1 32 "UpAllRound$Reader" "place" "I") (List.mem_of_getElem? (i := 1) rfl)) (fun _ h9 => h9) rfl dX1_readLevel_33 ?_
            refine lv_aload_n hx hb dX1_readLevel_36 rfl (lv_at hl 0 rfl) ?_
            refine va_get (ci := 1) (v := .int (nI L)) (C := RX1) (T := TX1) (N := 5) hx hb hts hin1 hown hK hP 0 rfl rfl 2 (by decide) (hts (.fieldLink RX1 22 "UpAllRound$Reader" "length" "I") (List.mem_of_getElem? (i := 2) rfl)) (fun _ h9 => h9) rfl dX1_readLevel_37 ?_
            refine lv_icmp_ge (tgt := 107) hx hb dX1_readLevel_40 (by decide) (fun c40_11 => ?_) (fun c40_11 => ?_)
            · have c40_11 : L ≤ pv := (nI_leI (a := L) (b := pv) (by omega) (by omega)).mp c40_11
              refine lv_iconst (v := nI 1) hx hb dX1_readLevel_107 (by decide) ?_
              exact hret hP hD hS dX1_readLevel_108 rfl (by obtain ⟨e1, e2, e3⟩ := zLe (f := f1) hz (by omega); subst e1; subst e2; subst e3; exact ⟨_, _, by omega, fun _ => ⟨rfl, rfl⟩, (bI_t rfl).symm, rfl⟩)
            · have c40_11 : ¬ (L ≤ pv) := fun h9 => c40_11 ((nI_leI (a := L) (b := pv) (by omega) (by omega)).mpr h9)
              refine lv_aload_n hx hb dX1_readLevel_43 rfl (lv_at hl 0 rfl) ?_
              refine va_get (ci := 1) (v := .ref ht) (C := RX1) (T := TX1) (N := 5) hx hb hts hin1 hown hK hP 0 rfl rfl 1 (by decide) (hts (.fieldLink RX1 18 "UpAllRound$Reader" "tape" "[I") (List.mem_of_getElem? (i := 3) rfl)) (fun _ h9 => h9) rfl dX1_readLevel_44 ?_
              refine lv_aload_n hx hb dX1_readLevel_47 rfl (lv_at hl 0 rfl) ?_
              refine va_get (ci := 1) (v := .int (nI pv)) (C := RX1) (T := TX1) (N := 5) hx hb hts hin1 hown hK hP 0 rfl rfl 4 (by decide) (hts (.fieldLink RX1 32 "UpAllRound$Reader" "place" "I") (List.mem_of_getElem? (i := 1) rfl)) (fun _ h9 => h9) rfl dX1_readLevel_48 ?_
              refine zald (t := pv) hx hb hK hP 3 rfl (by omega) (by decide) dX1_readLevel_51 ?_
              refine zrw (htb pv (by omega)) ?_
              refine zcsE (va_runS (As := [.int (nI (T pv))]) (rest := []) ⟨hx, hb, hml, hown, hts⟩ (c_X1_levelOf l D cI cJ (T pv) (hT pv (by omega)) H.size) (va_cwS 1 hts gX1_readLevel_X1_levelOf rfl rfl rfl (by decide +kernel) ⟨Nat.le_of_ble_eq_true rfl, Nat.le_of_ble_eq_true rfl⟩) (zpS hK hN hZ hP hD hS hA [] rfl (by decide)) rfl rfl hl.1 rfl (lv_room (Nat.le_of_ble_eq_true rfl)) dX1_readLevel_52 ⟨Nat.zero_le _, Nat.zero_le _⟩) ?_
              refine lv_iload_n hx hb dX1_readLevel_55 rfl (lv_at hl 1 rfl) ?_
              refine lv_icmp_ne (tgt := 107) hx hb dX1_readLevel_56 (by decide) (fun c56_12 => ?_) (fun c56_12 => ?_)
              · have c56_12 : ¬ (((zlv (T pv))) = 0) := fun h9 => c56_12 ((nI_eq (a := (zlv (T pv))) (b := 0) (by have h91 := zlv_le (T pv); omega) (by have h91 := zlv_le (T pv); omega)).mpr h9)
                refine lv_iconst (v := nI 1) hx hb dX1_readLevel_107 (by decide) ?_
                exact hret hP hD hS dX1_readLevel_108 rfl (by obtain ⟨e1, e2, e3⟩ := zLe (f := f1) hz (by omega); subst e1; subst e2; subst e3; exact ⟨_, _, by omega, fun _ => ⟨rfl, rfl⟩, (bI_t rfl).symm, rfl⟩)
              · have c56_12 : ((zlv (T pv))) = 0 := (nI_eq (a := (zlv (T pv))) (b := 0) (by have h91 := zlv_le (T pv); omega) (by have h91 := zlv_le (T pv); omega)).mp c56_12
                refine lv_aload_n hx hb dX1_readLevel_59 rfl (lv_at hl 0 rfl) ?_
                refine va_get (ci := 1) (v := .ref ht) (C := RX1) (T := TX1) (N := 5) hx hb hts hin1 hown hK hP 0 rfl rfl 1 (by decide) (hts (.fieldLink RX1 18 "UpAllRound$Reader" "tape" "[I") (List.mem_of_getElem? (i := 3) rfl)) (fun _ h9 => h9) rfl dX1_readLevel_60 ?_
                refine lv_aload_n hx hb dX1_readLevel_63 rfl (lv_at hl 0 rfl) ?_
                refine va_get (ci := 1) (v := .int (nI pv)) (C := RX1) (T := TX1) (N := 5) hx hb hts hin1 hown hK hP 0 rfl rfl 4 (by decide) (hts (.fieldLink RX1 32 "UpAllRound$Reader" "place" "I") (List.mem_of_getElem? (i := 1) rfl)) (fun _ h9 => h9) rfl dX1_readLevel_64 ?_
                refine zald (t := pv) hx hb hK hP 3 rfl (by omega) (by decide) dX1_readLevel_67 ?_
                refine zrw (htb pv (by omega)) ?_
                refine lv_istore (lv' := [(5, .int (nI (T pv))), (0, .ref h), (1, .int (nI 0)), (2, .int (nI 1)), (3, .int (nI 60)), (4, .int (nI i))]) hx hb dX1_readLevel_68 hl (by decide) rfl (fun ls hl => ?_)
                refine lv_aload_n hx hb dX1_readLevel_70 rfl (lv_at hl 1 rfl) ?_
                refine lv_dup hx hb dX1_readLevel_71 rfl ?_
                refine va_get (ci := 1) (v := .int (nI pv)) (C := RX1) (T := TX1) (N := 5) hx hb hts hin1 hown hK hP 0 rfl rfl 4 (by decide) (hts (.fieldLink RX1 32 "UpAllRound$Reader" "place" "I") (List.mem_of_getElem? (i := 1) rfl)) (fun _ h9 => h9) rfl dX1_readLevel_72 ?_
                refine lv_iconst (v := nI 1) hx hb dX1_readLevel_75 (by decide) ?_
                refine lv_iadd hx hb dX1_readLevel_76 ?_
                refine zrw (nI_add _ _) ?_
                refine va_put (ci := 1) (v := .int (nI (pv + 1))) (ty := .int) (C := RX1) (T := TX1) (N := 5) hx hb hts hin1 tyX1 tyX1_ok nmX1 hown hK hP hD hS 0 rfl rfl 4 (by decide) (hts (.fieldLink RX1 32 "UpAllRound$Reader" "place" "I") (List.mem_of_getElem? (i := 1) rfl)) (fun _ h9 => h9) rfl (by decide +kernel) rfl rfl (Nat.le_of_ble_eq_true rfl) dX1_readLevel_77 (fun H locs hP hD hS => ?_)
                have hP : va_P D vwCl [(h, .inr (1, [.ref hl9, .ref ht, .int (nI L), .ref (ad u), .int (nI (pv + 1))])), (hl9, .inr (0, [.ref hc, .int (nI ((c + ta.length))), .ref hst])), (hc, .inl (cI, 60, .inl (zapp C c ta))), (ht, .inl (cI, 60, .inl TB))] H := hP
                have hD : va_D AA [(h, .inr (1, [.ref hl9, .ref ht, .int (nI L), .ref (ad u), .int (nI (pv + 1))])), (hl9, .inr (0, [.ref hc, .int (nI ((c + ta.length))), .ref hst])), (hc, .inl (cI, 60, .inl (zapp C c ta))), (ht, .inl (cI, 60, .inl TB))] := hD
                obtain ⟨b2, q2, t2, hR2⟩ : ∃ (b0 : Bool) (q0 : Nat) (t0 : zTks), zLS T L (zQ T L u 4) 4 (pv + 1) = (b0, q0, t0) := ⟨_, _, _, rfl⟩
                have hg2 := (zLS_gd (T := T) (zQ_gd (T := T) (L := L) (u := u) 4) 4) (pv + 1) (by omega)
                rw [hR2] at hg2
                obtain ⟨hga2, hgb2, hgc2⟩ : (pv + 1) ≤ q2 ∧ q2 ≤ L ∧ (b2 = true → (pv + 1) < q2 ∧ t2.length ≤ q2 - (pv + 1) ∧ zw1 t2) := hg2
                refine lv_aload_n hx hb dX1_readLevel_80 rfl (lv_at hl 1 rfl) ?_
                refine lv_iload_n hx hb dX1_readLevel_81 rfl (lv_at hl 2 rfl) ?_
                refine lv_iload_n hx hb dX1_readLevel_82 rfl (lv_at hl 3 rfl) ?_
                refine zci (wr := []) (va_runV (As := [.int (nI 0), .int (nI 1)]) (rest := []) ⟨hx, hb, hml, hown, hts⟩ (c_X1_readPart_0_1 l D cI cJ ad bd h hl9 ht hc hst L u T TB (pv + 1) ((c + ta.length)) (zapp C c ta) b2 q2 t2 (by first | rfl | assumption | omega) (by first | rfl | assumption | omega) (by first | rfl | assumption | omega) (by first | rfl | assumption | omega) (by omega) (by omega) hR2 H.size) (cwV 2 hts gX1_readLevel_X1_readPart rfl rfl rfl (by decide +kernel) ⟨Nat.le_of_ble_eq_true rfl, Nat.le_of_ble_eq_true rfl⟩) (zpVs hG hK hN hZ hP hD hS hA [0, 1, 2, 3] rfl (by decide) 0 rfl rfl rfl) rfl rfl hl.1 rfl (lv_room (Nat.le_of_ble_eq_true rfl)) dX1_readLevel_83 ⟨Nat.zero_le _, Nat.zero_le _⟩) hP hD hS hA [0, 1, 2, 3] [] rfl rfl (by decide) (by decide) (fun r_15 w_14 H locs h_13 hP hD hS => ?_)
                obtain ⟨c9_16, C9_17, hq9_18, hx9_19, rfl, rfl⟩ := h_13
                have hP : va_P D vwCl [(h, .inr (1, [.ref hl9, .ref ht, .int (nI L), .ref (ad u), .int (nI q2)])), (hl9, .inr (0, [.ref hc, .int (nI c9_16), .ref hst])), (hc, .inl (cI, 60, .inl C9_17)), (ht, .inl (cI, 60, .inl TB))] H := hP
                have hD : va_D AA [(h, .inr (1, [.ref hl9, .ref ht, .int (nI L), .ref (ad u), .int (nI q2)])), (hl9, .inr (0, [.ref hc, .int (nI c9_16), .ref hst])), (hc, .inl (cI, 60, .inl C9_17)), (ht, .inl (cI, 60, .inl TB))] := hD
                refine lv_if_ne (tgt := 91) hx hb dX1_readLevel_86 (by decide) (fun c86_20 => ?_) (fun c86_20 => ?_)
                · have c86_20 := bI_n0.mp c86_20
                  obtain ⟨hgd2, hge2, hgf2⟩ := hgc2 c86_20
                  obtain ⟨he2, hE2⟩ := hx9_19 c86_20
                  subst he2; subst hE2
                  refine lv_aload_n hx hb dX1_readLevel_91 rfl (lv_at hl 1 rfl) ?_
                  refine va_get (ci := 1) (v := .ref hl9) (C := RX1) (T := TX1) (N := 5) hx hb hts hin1 hown hK hP 0 rfl rfl 0 (by decide) (hts (.fieldLink RX1 12 "UpAllRound$Reader" "law" "LUpAllRound$Law;") (List.mem_of_getElem? (i := 4) rfl)) (fun _ h9 => h9) rfl dX1_readLevel_92 ?_
                  refine lv_iload hx hb dX1_readLevel_95 (lv_at hl 0 rfl) ?_
                  refine lv_ineg hx hb dX1_readLevel_97 ?_
                  refine zcv (wr := [(h, .inr (1, [.ref hl9, .ref ht, .int (nI L), .ref (ad u), .int (nI q2)])), (ht, .inl (cI, 60, .inl TB))]) (va_runVN (As := [.int (-(nI (T pv)))]) (rest := []) ⟨hx, hb, hml, hown, hts⟩ (c_X0_add l D cI cJ hl9 hc hst ((c + ta.length + t2.length)) (zapp (zapp C c ta) (c + ta.length) t2) (-(nI (T pv))) (by omega) H.size) ⟨va_cnB 1 hts gX1_readLevel_X0_add_n61 rfl rfl rfl (hN (.methodLinkNest "UpAllRound$Reader" 61 yX0_add "UpAllRound") (List.mem_of_getElem? (i := 38) rfl)) (hts (.initialized RX0) (List.mem_of_getElem? (i := 13) rfl)) (by decide +kernel) ⟨Nat.le_of_ble_eq_true rfl, Nat.le_of_ble_eq_true rfl⟩, (hts (.instanceMethod yX0_add) (List.mem_of_getElem? (i := 12) rfl)), (hts (.selects RX0 yX0_add yX0_add) (List.mem_of_getElem? (i := 14) rfl))⟩ (zpV hK hN hZ hP hD hS hA [1, 2] rfl (by decide) 1 rfl rfl rfl) rfl rfl hl.1 rfl (lv_room (Nat.le_of_ble_eq_true rfl)) dX1_readLevel_98 ⟨Nat.zero_le _, Nat.zero_le _⟩) hP hD hS hA [1, 2] [0, 3] rfl rfl (by decide) (by decide) (fun w_22 H locs h_21 hP hD hS => ?_)
                  obtain rfl := h_21
                  have hP : va_P D vwCl [(h, .inr (1, [.ref hl9, .ref ht, .int (nI L), .ref (ad u), .int (nI q2)])), (ht, .inl (cI, 60, .inl TB)), (hl9, .inr (0, [.ref hc, .int (nI (((c + ta.length + t2.length)) + 1)), .ref hst])), (hc, .inl (cI, 60, .inl (upd (zapp (zapp C c ta) (c + ta.length) t2) ((c + ta.length + t2.length)) (-(nI (T pv))))))] H := hP
                  have hD : va_D AA [(h, .inr (1, [.ref hl9, .ref ht, .int (nI L), .ref (ad u), .int (nI q2)])), (ht, .inl (cI, 60, .inl TB)), (hl9, .inr (0, [.ref hc, .int (nI (((c + ta.length + t2.length)) + 1)), .ref hst])), (hc, .inl (cI, 60, .inl (upd (zapp (zapp C c ta) (c + ta.length) t2) ((c + ta.length + t2.length)) (-(nI (T pv))))))] := hD
                  refine lv_iinc (v := nI (i + 1)) (lv' := [(4, .int (nI (i + 1))), (5, .int (nI (T pv))), (0, .ref h), (1, .int (nI 0)), (2, .int (nI 1)), (3, .int (nI 60))]) hx hb dX1_readLevel_101 hl (k := 5) rfl (nI_add _ _) (by decide) rfl (fun ls hl => ?_)
                  refine lv_goto (tgt := 26) hx hb dX1_readLevel_104 (by decide) ?_
                  rw [show -(nI (T pv)) = zcode (3, T pv) from rfl, zapp1, zlen1 (t := (3, T pv))] at hP hD
                  exact ih_26   f1 q2 ((ta ++ (t2 ++ [(3, T pv)]))) ((i + 1)) (by omega) (zLt (by decide) hz ⟨by omega, by omega⟩ hR2 (by assumption)) (by omega) (by omega) (by rw [← zlen1]; omega) (by omega) ls (lv_sub hl [2, 3, 4, 5, 0] rfl) H locs (hP.sub [0, 2, 3, 1] rfl) (hD.sub [0, 2, 3, 1] (by decide) rfl) hS
                · have c86_20 := bI_0.mp c86_20
                  refine lv_iconst (v := nI 0) hx hb dX1_readLevel_89 (by decide) ?_
                  exact hret hP hD hS dX1_readLevel_90 rfl (by obtain ⟨e1, e2⟩ := zLf hz ⟨by omega, by omega⟩ hR2 (by assumption); subst e1; subst e2; exact ⟨_, _, hq9_18, fun h9 => (by cases h9), (bI_f (by decide)).symm, rfl⟩)
      exact L_26 62  61 q1 t1 0 (by omega) hz (by omega) (by omega) (by omega) (by omega) ls (lv_sub hl [2, 3, 4, 1, 0] rfl) _ _ hP hD hS
    · have c13_9 : 0 = 2 := (nI_eq (a := 0) (b := 2) (by omega) (by omega)).mp c13_9
      exact absurd c13_9 (by omega)
  · have c6_8 := bI_0.mp c6_8
    refine lv_iconst (v := nI 0) hx hb dX1_readLevel_9 (by decide) ?_
    exact hret hP hD hS dX1_readLevel_10 rfl (by obtain ⟨e1, e2⟩ := zLv_ff hR hR1 (by assumption); subst e1; subst e2; exact ⟨_, _, hq9_6, fun h9 => (by cases h9), (bI_f (by decide)).symm, rfl⟩)
set_option maxHeartbeats 4000000 in
set_option maxRecDepth 100000 in
theorem c_X1_readNot_1 (l : Launch) (D : va_G) (cI cJ : ClassId) (ad : Nat → Nat) (bd : Nat → Nat) (h : Nat) (hl9 : Nat) (ht : Nat) (hc : Nat) (hst : Nat) (L : Nat) (u : Nat) (T : Nat → Nat) (TB : Nat → Int32) (p : Nat) (c : Nat) (C : Nat → Int32) (b : Bool) (q : Nat) (tl : zTks) (hL : L ≤ 60) (hu1 : u ≤ 1) (hT : ∀ i, i < L → T i < 256) (htb : ∀ i, i < L → TB i = nI (T i)) (hp : p ≤ L) (hcp : c + 1 ≤ p) (hR : zQ T L u 4 p = (b, q, tl)) : zTi ad bd l yX1_readNot wsX1_readNot ({ frames := 49, cells := 0, slots := 0, locals := 1146 } : Room) D [(cI, .int), (cJ, .array .int)] [.ref h, .int (nI 1)] [(h, .inr (1, [.ref hl9, .ref ht, .int (nI L), .ref (ad u), .int (nI p)])), (hl9, .inr (0, [.ref hc, .int (nI c), .ref hst])), (hc, .inl (cI, 60, .inl C)), (ht, .inl (cI, 60, .inl TB))] (fun r w => ∃ (c9 : Nat) (C9 : Nat → Int32), c9 ≤ q ∧ (b = true → c9 = c + (tl ++ [(2, 0)]).length ∧ C9 = zapp C c (tl ++ [(2, 0)])) ∧ r = bI (b = true) ∧ w = [(h, .inr (1, [.ref hl9, .ref ht, .int (nI L), .ref (ad u), .int (nI q)])), (hl9, .inr (0, [.ref hc, .int (nI c9), .ref hst])), (hc, .inl (cI, 60, .inl C9)), (ht, .inl (cI, 60, .inl TB))]) := by
  refine zTi.start (cc := cX1_readNot) (maxL := 2) (rt := .boolean) (by first | decide | decide +kernel) rfl (Nat.le_of_ble_eq_true rfl) ?_
  intro pg ev s mt args below meth cd ls AA QQ ⟨hx, hb, hml, hr, hlocks, hown, hts, hK, hN, hZ, hP, hD, hA, hS, hl⟩ hG hret
  have hown : s.vm.findClass RX1 = some mt.cls := hown
  have hl : lv_has ls 2 [(0, .ref h), (1, .int (nI 1))] := hl
  have hin0 : ∀ w ∈ wsX00, w ∈ wsX1_readNot := fun w h => List.mem_cons_of_mem _ (List.mem_append_right _ (h))
  have hin1 : ∀ w ∈ wsX10, w ∈ wsX1_readNot := fun w h => List.mem_cons_of_mem _ (List.mem_append_left _ (List.mem_append_right _ (h)))
  refine lv_aload_n hx hb dX1_readNot_0 rfl (lv_at hl 0 rfl) ?_
  have hg1 := zQ_gd (T := T) (L := L) (u := u) 4 p hp
  rw [hR] at hg1
  obtain ⟨hga1, hgb1, hgc1⟩ : p ≤ q ∧ q ≤ L ∧ (b = true → p < q ∧ tl.length ≤ q - p ∧ zw1 tl) := hg1
  refine lv_iload_n hx hb dX1_readNot_1 rfl (lv_at hl 1 rfl) ?_
  refine zci (wr := []) (va_runV (As := [.int (nI 1)]) (rest := []) ⟨hx, hb, hml, hown, hts⟩ (c_X1_readQ_1 l D cI cJ ad bd h hl9 ht hc hst L u T TB p c C b q tl (by first | rfl | assumption | omega) (by first | rfl | assumption | omega) (by first | rfl | assumption | omega) (by first | rfl | assumption | omega) (by first | rfl | assumption | omega) (by omega) hR s.heap.size) (cwV 1 hts gX1_readNot_X1_readQ rfl rfl rfl (by decide +kernel) ⟨Nat.le_of_ble_eq_true rfl, Nat.le_of_ble_eq_true rfl⟩) (zpVs hG hK hN hZ hP hD hS hA [0, 1, 2, 3] rfl (by decide) 0 rfl rfl rfl) rfl rfl hl.1 rfl (lv_room (Nat.le_of_ble_eq_true rfl)) dX1_readNot_2 ⟨Nat.zero_le _, Nat.zero_le _⟩) hP hD hS hA [0, 1, 2, 3] [] rfl rfl (by decide) (by decide) (fun r_3 w_2 H locs h_1 hP hD hS => ?_)
  obtain ⟨c9_4, C9_5, hq9_6, hx9_7, rfl, rfl⟩ := h_1
  have hP : va_P D vwCl [(h, .inr (1, [.ref hl9, .ref ht, .int (nI L), .ref (ad u), .int (nI q)])), (hl9, .inr (0, [.ref hc, .int (nI c9_4), .ref hst])), (hc, .inl (cI, 60, .inl C9_5)), (ht, .inl (cI, 60, .inl TB))] H := hP
  have hD : va_D AA [(h, .inr (1, [.ref hl9, .ref ht, .int (nI L), .ref (ad u), .int (nI q)])), (hl9, .inr (0, [.ref hc, .int (nI c9_4), .ref hst])), (hc, .inl (cI, 60, .inl C9_5)), (ht, .inl (cI, 60, .inl TB))] := hD
  refine lv_if_ne (tgt := 10) hx hb dX1_readNot_5 (by decide) (fun c5_8 => ?_) (fun c5_8 => ?_)
  · have c5_8 := bI_n0.mp c5_8
    obtain ⟨hgd1, hge1, hgf1⟩ := hgc1 c5_8
    obtain ⟨he1, hE1⟩ := hx9_7 c5_8
    subst he1; subst hE1
    refine lv_aload_n hx hb dX1_readNot_10 rfl (lv_at hl 0 rfl) ?_
    refine va_get (ci := 1) (v := .ref hl9) (C := RX1) (T := TX1) (N := 5) hx hb hts hin1 hown hK hP 0 rfl rfl 0 (by decide) (hts (.fieldLink RX1 12 "UpAllRound$Reader" "law" "LUpAllRound$Law;") (List.mem_of_getElem? (i := 1) rfl)) (fun _ h9 => h9) rfl dX1_readNot_11 ?_
    refine lv_bipush (v := (-33)) hx hb dX1_readNot_14 (by decide) ?_
    refine zcv (wr := [(h, .inr (1, [.ref hl9, .ref ht, .int (nI L), .ref (ad u), .int (nI q)])), (ht, .inl (cI, 60, .inl TB))]) (va_runVN (As := [.int ((-33))]) (rest := []) ⟨hx, hb, hml, hown, hts⟩ (c_X0_add l D cI cJ hl9 hc hst ((c + tl.length)) (zapp C c tl) ((-33)) (by omega) H.size) ⟨va_cnB 1 hts gX1_readNot_X0_add_n61 rfl rfl rfl (hN (.methodLinkNest "UpAllRound$Reader" 61 yX0_add "UpAllRound") (List.mem_of_getElem? (i := 38) rfl)) (hts (.initialized RX0) (List.mem_of_getElem? (i := 7) rfl)) (by decide +kernel) ⟨Nat.le_of_ble_eq_true rfl, Nat.le_of_ble_eq_true rfl⟩, (hts (.instanceMethod yX0_add) (List.mem_of_getElem? (i := 6) rfl)), (hts (.selects RX0 yX0_add yX0_add) (List.mem_of_getElem? (i := 8) rfl))⟩ (zpV hK hN hZ hP hD hS hA [1, 2] rfl (by decide) 1 rfl rfl rfl) rfl rfl hl.1 rfl (lv_room (Nat.le_of_ble_eq_true rfl)) dX1_readNot_16 ⟨Nat.zero_le _, Nat.zero_le _⟩) hP hD hS hA [1, 2] [0, 3] rfl rfl (by decide) (by decide) (fun w_10 H locs h_9 hP hD hS => ?_)
    obtain rfl := h_9
    have hP : va_P D vwCl [(h, .inr (1, [.ref hl9, .ref ht, .int (nI L), .ref (ad u), .int (nI q)])), (ht, .inl (cI, 60, .inl TB)), (hl9, .inr (0, [.ref hc, .int (nI (((c + tl.length)) + 1)), .ref hst])), (hc, .inl (cI, 60, .inl (upd (zapp C c tl) ((c + tl.length)) ((-33)))))] H := hP
    have hD : va_D AA [(h, .inr (1, [.ref hl9, .ref ht, .int (nI L), .ref (ad u), .int (nI q)])), (ht, .inl (cI, 60, .inl TB)), (hl9, .inr (0, [.ref hc, .int (nI (((c + tl.length)) + 1)), .ref hst])), (hc, .inl (cI, 60, .inl (upd (zapp C c tl) ((c + tl.length)) ((-33)))))] := hD
    refine lv_iconst (v := nI 1) hx hb dX1_readNot_19 (by decide) ?_
    have hP := hP.sub (ws' := [(h, .inr (1, [.ref hl9, .ref ht, .int (nI L), .ref (ad u), .int (nI q)])), (hl9, .inr (0, [.ref hc, .int (nI (((c + tl.length)) + 1)), .ref hst])), (hc, .inl (cI, 60, .inl (upd (zapp C c tl) ((c + tl.length)) ((-33))))), (ht, .inl (cI, 60, .inl TB))]) [0, 2, 3, 1] rfl
    have hD := hD.sub (ws' := [(h, .inr (1, [.ref hl9, .ref ht, .int (nI L), .ref (ad u), .int (nI q)])), (hl9, .inr (0, [.ref hc, .int (nI (((c + tl.length)) + 1)), .ref hst])), (hc, .inl (cI, 60, .inl (upd (zapp C c tl) ((c + tl.length)) ((-33))))), (ht, .inl (cI, 60, .inl TB))]) [0, 2, 3, 1] (by decide) rfl
    exact hret hP hD hS dX1_readNot_20 rfl (by exact ⟨_, _, show c + tl.length + 1 ≤ q from (by omega), fun _ => ⟨(by rw [List.length_append] <;> rfl), zapp0⟩, (bI_t (by assumption)).symm, rfl⟩)
  · have c5_8 := bI_0.mp c5_8
    refine lv_iconst (v := nI 0) hx hb dX1_readNot_8 (by decide) ?_
    exact hret hP hD hS dX1_readNot_9 rfl (by exact ⟨_, _, hq9_6, fun h9 => absurd h9 (by assumption), (bI_f (by assumption)).symm, rfl⟩)
set_option maxHeartbeats 4000000 in
set_option maxRecDepth 100000 in
theorem c_X1_readQ_0 (l : Launch) (D : va_G) (cI cJ : ClassId) (ad : Nat → Nat) (bd : Nat → Nat) (h : Nat) (hl9 : Nat) (ht : Nat) (hc : Nat) (hst : Nat) (L : Nat) (u : Nat) (T : Nat → Nat) (TB : Nat → Int32) (p : Nat) (c : Nat) (C : Nat → Int32) (b : Bool) (q : Nat) (tl : zTks) (hL : L ≤ 60) (hu1 : u ≤ 1) (hT : ∀ i, i < L → T i < 256) (htb : ∀ i, i < L → TB i = nI (T i)) (hp : p ≤ L) (hcp : c ≤ p) (hR : zQ T L u 5 p = (b, q, tl)) : zTi ad bd l yX1_readQ wsX1_readQ ({ frames := 59, cells := 0, slots := 0, locals := 1381 } : Room) D [(cI, .int), (cJ, .array .int)] [.ref h, .int (nI 0)] [(h, .inr (1, [.ref hl9, .ref ht, .int (nI L), .ref (ad u), .int (nI p)])), (hl9, .inr (0, [.ref hc, .int (nI c), .ref hst])), (hc, .inl (cI, 60, .inl C)), (ht, .inl (cI, 60, .inl TB))] (fun r w => ∃ (c9 : Nat) (C9 : Nat → Int32), c9 ≤ q ∧ (b = true → c9 = c + tl.length ∧ C9 = zapp C c tl) ∧ r = bI (b = true) ∧ w = [(h, .inr (1, [.ref hl9, .ref ht, .int (nI L), .ref (ad u), .int (nI q)])), (hl9, .inr (0, [.ref hc, .int (nI c9), .ref hst])), (hc, .inl (cI, 60, .inl C9)), (ht, .inl (cI, 60, .inl TB))]) := by
  refine zTi.start (cc := cX1_readQ) (maxL := 4) (rt := .boolean) (by first | decide | decide +kernel) rfl (Nat.le_of_ble_eq_true rfl) ?_
  intro pg ev s mt args below meth cd ls AA QQ ⟨hx, hb, hml, hr, hlocks, hown, hts, hK, hN, hZ, hP, hD, hA, hS, hl⟩ hG hret
  have hown : s.vm.findClass RX1 = some mt.cls := hown
  have hl : lv_has ls 4 [(0, .ref h), (1, .int (nI 0))] := hl
  have hin0 : ∀ w ∈ wsX00, w ∈ wsX1_readQ := fun w h => List.mem_cons_of_mem _ (List.mem_append_right _ (h))
  have hin1 : ∀ w ∈ wsX10, w ∈ wsX1_readQ := fun w h => List.mem_cons_of_mem _ (List.mem_append_left _ (List.mem_append_right _ (h)))
  have hR : zQb T L u true (zQ T L u 4) (zLS T L (zQ T L u 4) 5) p = (b, q, tl) := hR
  refine lv_aload_n hx hb dX1_readQ_0 rfl (lv_at hl 0 rfl) ?_
  refine va_get (ci := 1) (v := .int (nI p)) (C := RX1) (T := TX1) (N := 5) hx hb hts hin1 hown hK hP 0 rfl rfl 4 (by decide) (hts (.fieldLink RX1 32 "UpAllRound$Reader" "place" "I") (List.mem_of_getElem? (i := 1) rfl)) (fun _ h9 => h9) rfl dX1_readQ_1 ?_
  refine lv_aload_n hx hb dX1_readQ_4 rfl (lv_at hl 0 rfl) ?_
  refine va_get (ci := 1) (v := .int (nI L)) (C := RX1) (T := TX1) (N := 5) hx hb hts hin1 hown hK hP 0 rfl rfl 2 (by decide) (hts (.fieldLink RX1 22 "UpAllRound$Reader" "length" "I") (List.mem_of_getElem? (i := 2) rfl)) (fun _ h9 => h9) rfl dX1_readQ_5 ?_
  refine lv_icmp_lt (tgt := 13) hx hb dX1_readQ_8 (by decide) (fun c8_1 => ?_) (fun c8_1 => ?_)
  · have c8_1 : p < L := (nI_ltI (a := p) (b := L) (by omega) (by omega)).mp c8_1
    refine lv_aload_n hx hb dX1_readQ_13 rfl (lv_at hl 0 rfl) ?_
    refine va_get (ci := 1) (v := .ref ht) (C := RX1) (T := TX1) (N := 5) hx hb hts hin1 hown hK hP 0 rfl rfl 1 (by decide) (hts (.fieldLink RX1 18 "UpAllRound$Reader" "tape" "[I") (List.mem_of_getElem? (i := 3) rfl)) (fun _ h9 => h9) rfl dX1_readQ_14 ?_
    refine lv_aload_n hx hb dX1_readQ_17 rfl (lv_at hl 0 rfl) ?_
    refine va_get (ci := 1) (v := .int (nI p)) (C := RX1) (T := TX1) (N := 5) hx hb hts hin1 hown hK hP 0 rfl rfl 4 (by decide) (hts (.fieldLink RX1 32 "UpAllRound$Reader" "place" "I") (List.mem_of_getElem? (i := 1) rfl)) (fun _ h9 => h9) rfl dX1_readQ_18 ?_
    refine zald (t := p) hx hb hK hP 3 rfl (by omega) (by decide) dX1_readQ_21 ?_
    refine zrw (htb p (by omega)) ?_
    refine lv_istore_n (lv' := [(2, .int (nI (T p))), (0, .ref h), (1, .int (nI 0))]) hx hb dX1_readQ_22 rfl hl (by decide) rfl (fun ls hl => ?_)
    refine lv_iload_n hx hb dX1_readQ_23 rfl (lv_at hl 0 rfl) ?_
    refine zcsE (va_runS (As := [.int (nI (T p))]) (rest := []) ⟨hx, hb, hml, hown, hts⟩ (c_X1_isDigit l D cI cJ (T p) (hT p (by omega)) s.heap.size) (va_cwS 1 hts gX1_readQ_X1_isDigit rfl rfl rfl (by decide +kernel) ⟨Nat.le_of_ble_eq_true rfl, Nat.le_of_ble_eq_true rfl⟩) (zpS hK hN hZ hP hD hS hA [] rfl (by decide)) rfl rfl hl.1 rfl (lv_room (Nat.le_of_ble_eq_true rfl)) dX1_readQ_24 ⟨Nat.zero_le _, Nat.zero_le _⟩) ?_
    refine lv_if_eq (tgt := 36) hx hb dX1_readQ_27 (by decide) (fun c27_2 => ?_) (fun c27_2 => ?_)
    · have c27_2 := bI_0.mp c27_2
      refine lv_aload_n hx hb dX1_readQ_36 rfl (lv_at hl 1 rfl) ?_
      refine va_get (ci := 1) (v := .ref (ad u)) (C := RX1) (T := TX1) (N := 5) hx hb hts hin1 hown hK hP 0 rfl rfl 3 (by decide) (hts (.fieldLink RX1 28 "UpAllRound$Reader" "names" "Ljava/lang/String;") (List.mem_of_getElem? (i := 4) rfl)) (fun _ h9 => h9) rfl dX1_readQ_37 ?_
      refine lv_iload_n hx hb dX1_readQ_40 rfl (lv_at hl 0 rfl) ?_
      refine lv_i2c (v := nI (T p)) hx hb dX1_readQ_41 (zi2c _ (hT p (by omega))) ?_
      refine zcsE (va_runV (As := [.int (nI (T p))]) (rest := []) ⟨hx, hb, hml, hown, hts⟩ (c_J0_indexOf l D cI cJ ad bd u ((T p)) (by first | rfl | assumption | omega) (hT p (by omega)) s.heap.size) (cwV 1 hts gX1_readQ_J0_indexOf_0f7a4 rfl rfl rfl (by decide +kernel) ⟨Nat.le_of_ble_eq_true rfl, Nat.le_of_ble_eq_true rfl⟩) (zpVk (show u < 3 by omega) rfl hG hK hN hZ hP hD hS hA [] rfl (by decide)) rfl rfl hl.1 rfl (lv_room (Nat.le_of_ble_eq_true rfl)) dX1_readQ_42 ⟨Nat.zero_le _, Nat.zero_le _⟩) ?_
      rcases hnx : znx u (T p) with _ | j
      · refine zrw (show zbw none = (-1) from rfl) ?_
        refine lv_istore_n (lv' := [(3, .int ((-1))), (2, .int (nI (T p))), (0, .ref h), (1, .int (nI 0))]) hx hb dX1_readQ_45 rfl hl (by decide) rfl (fun ls hl => ?_)
        refine lv_iload_n hx hb dX1_readQ_46 rfl (lv_at hl 0 rfl) ?_
        refine lv_if_lt (tgt := 72) hx hb dX1_readQ_47 (by decide) (fun c47_3 => ?_) (fun c47_3 => ?_)
        · refine lv_iload_n hx hb dX1_readQ_72 rfl (lv_at hl 1 rfl) ?_
          refine lv_bipush (v := nI 33) hx hb dX1_readQ_73 (by decide) ?_
          refine lv_icmp_eq (tgt := 84) hx hb dX1_readQ_75 (by decide) (fun c75_4 => ?_) (fun c75_4 => ?_)
          · have c75_4 : (T p) = 33 := (nI_eq (a := T p) (b := 33) (by have h91 := hT p (by omega); omega) (by have h91 := hT p (by omega); omega)).mp c75_4
            refine lv_iload_n hx hb dX1_readQ_84 rfl (lv_at hl 3 rfl) ?_
            refine lv_iconst (v := nI 5) hx hb dX1_readQ_85 (by decide) ?_
            refine lv_icmp_lt (tgt := 91) hx hb dX1_readQ_86 (by decide) (fun c86_5 => ?_) (fun c86_5 => ?_)
            · have c86_5 : 0 < 5 := (nI_ltI (a := 0) (b := 5) (by omega) (by omega)).mp c86_5
              refine lv_aload_n hx hb dX1_readQ_91 rfl (lv_at hl 2 rfl) ?_
              refine lv_dup hx hb dX1_readQ_92 rfl ?_
              refine va_get (ci := 1) (v := .int (nI p)) (C := RX1) (T := TX1) (N := 5) hx hb hts hin1 hown hK hP 0 rfl rfl 4 (by decide) (hts (.fieldLink RX1 32 "UpAllRound$Reader" "place" "I") (List.mem_of_getElem? (i := 1) rfl)) (fun _ h9 => h9) rfl dX1_readQ_93 ?_
              refine lv_iconst (v := nI 1) hx hb dX1_readQ_96 (by decide) ?_
              refine lv_iadd hx hb dX1_readQ_97 ?_
              refine zrw (nI_add _ _) ?_
              refine va_put (ci := 1) (v := .int (nI (p + 1))) (ty := .int) (C := RX1) (T := TX1) (N := 5) hx hb hts hin1 tyX1 tyX1_ok nmX1 hown hK hP hD hS 0 rfl rfl 4 (by decide) (hts (.fieldLink RX1 32 "UpAllRound$Reader" "place" "I") (List.mem_of_getElem? (i := 1) rfl)) (fun _ h9 => h9) rfl (by decide +kernel) rfl rfl (Nat.le_of_ble_eq_true rfl) dX1_readQ_98 (fun H locs hP hD hS => ?_)
              have hP : va_P D vwCl [(h, .inr (1, [.ref hl9, .ref ht, .int (nI L), .ref (ad u), .int (nI (p + 1))])), (hl9, .inr (0, [.ref hc, .int (nI c), .ref hst])), (hc, .inl (cI, 60, .inl C)), (ht, .inl (cI, 60, .inl TB))] H := hP
              have hD : va_D AA [(h, .inr (1, [.ref hl9, .ref ht, .int (nI L), .ref (ad u), .int (nI (p + 1))])), (hl9, .inr (0, [.ref hc, .int (nI c), .ref hst])), (hc, .inl (cI, 60, .inl C)), (ht, .inl (cI, 60, .inl TB))] := hD
              refine lv_iload_n hx hb dX1_readQ_101 rfl (lv_at hl 1 rfl) ?_
              refine lv_bipush (v := nI 33) hx hb dX1_readQ_102 (by decide) ?_
              refine lv_icmp_ne (tgt := 117) hx hb dX1_readQ_104 (by decide) (fun c104_6 => ?_) (fun c104_6 => ?_)
              · have c104_6 : ¬ ((T p) = 33) := fun h9 => c104_6 ((nI_eq (a := T p) (b := 33) (by have h91 := hT p (by omega); omega) (by have h91 := hT p (by omega); omega)).mpr h9)
                obtain ⟨b1, q1, t1, hR1⟩ : ∃ (b0 : Bool) (q0 : Nat) (t0 : zTks), zLS T L (zQ T L u 4) 5 (p + 1) = (b0, q0, t0) := ⟨_, _, _, rfl⟩
                have hg1 := (zLS_gd (T := T) (zQ_gd (T := T) (L := L) (u := u) 4) 5) (p + 1) (by omega)
                rw [hR1] at hg1
                obtain ⟨hga1, hgb1, hgc1⟩ : (p + 1) ≤ q1 ∧ q1 ≤ L ∧ (b1 = true → (p + 1) < q1 ∧ t1.length ≤ q1 - (p + 1) ∧ zw1 t1) := hg1
                refine lv_aload_n hx hb dX1_readQ_117 rfl (lv_at hl 2 rfl) ?_
                refine lv_iconst (v := nI 0) hx hb dX1_readQ_118 (by decide) ?_
                refine lv_iload_n hx hb dX1_readQ_119 rfl (lv_at hl 3 rfl) ?_
                refine lv_iconst (v := nI 1) hx hb dX1_readQ_120 (by decide) ?_
                refine lv_iadd hx hb dX1_readQ_121 ?_
                refine zrw (nI_add _ _) ?_
                refine zci (wr := []) (va_runV (As := [.int (nI 0), .int (nI 1)]) (rest := []) ⟨hx, hb, hml, hown, hts⟩ (c_X1_readLevel_0_1 l D cI cJ ad bd h hl9 ht hc hst L u T TB (p + 1) c C b1 q1 t1 (by first | rfl | assumption | omega) (by first | rfl | assumption | omega) (by first | rfl | assumption | omega) (by first | rfl | assumption | omega) (by omega) (by omega) hR1 H.size) (cwV 2 hts gX1_readQ_X1_readLevel rfl rfl rfl (by decide +kernel) ⟨Nat.le_of_ble_eq_true rfl, Nat.le_of_ble_eq_true rfl⟩) (zpVs hG hK hN hZ hP hD hS hA [0, 1, 2, 3] rfl (by decide) 0 rfl rfl rfl) rfl rfl hl.1 rfl (lv_room (Nat.le_of_ble_eq_true rfl)) dX1_readQ_122 ⟨Nat.zero_le _, Nat.zero_le _⟩) hP hD hS hA [0, 1, 2, 3] [] rfl rfl (by decide) (by decide) (fun r_9 w_8 H locs h_7 hP hD hS => ?_)
                obtain ⟨c9_10, C9_11, hq9_12, hx9_13, rfl, rfl⟩ := h_7
                have hP : va_P D vwCl [(h, .inr (1, [.ref hl9, .ref ht, .int (nI L), .ref (ad u), .int (nI q1)])), (hl9, .inr (0, [.ref hc, .int (nI c9_10), .ref hst])), (hc, .inl (cI, 60, .inl C9_11)), (ht, .inl (cI, 60, .inl TB))] H := hP
                have hD : va_D AA [(h, .inr (1, [.ref hl9, .ref ht, .int (nI L), .ref (ad u), .int (nI q1)])), (hl9, .inr (0, [.ref hc, .int (nI c9_10), .ref hst])), (hc, .inl (cI, 60, .inl C9_11)), (ht, .inl (cI, 60, .inl TB))] := hD
                refine lv_if_eq (tgt := 139) hx hb dX1_readQ_125 (by decide) (fun c125_14 => ?_) (fun c125_14 => ?_)
                · have c125_14 := bI_0.mp c125_14
                  refine lv_iconst (v := nI 0) hx hb dX1_readQ_139 (by decide) ?_
                  exact hret hP hD hS dX1_readQ_140 rfl (by obtain ⟨e1, e2⟩ := zq_pf hR (by omega) (by assumption) hnx (by omega) hR1 (fun h9 => absurd h9.1 (by assumption)); subst e1; subst e2; exact ⟨_, _, hq9_12, fun h9 => (by cases h9), (bI_f (by decide)).symm, rfl⟩)
                · have c125_14 := bI_n0.mp c125_14
                  obtain ⟨hgd1, hge1, hgf1⟩ := hgc1 c125_14
                  obtain ⟨he1, hE1⟩ := hx9_13 c125_14
                  subst he1; subst hE1
                  refine lv_aload_n hx hb dX1_readQ_128 rfl (lv_at hl 2 rfl) ?_
                  refine zci (wr := []) (va_runV (As := []) (rest := []) ⟨hx, hb, hml, hown, hts⟩ (c_X1_readClose l D cI cJ ad bd h hl9 ht hc hst L u T TB q1 ((c + t1.length)) (zapp C c t1) (by first | rfl | assumption | omega) (by first | rfl | assumption | omega) (by first | rfl | assumption | omega) (by first | rfl | assumption | omega) (by first | rfl | assumption | omega) H.size) (cwV 0 hts gX1_readQ_X1_readClose rfl rfl rfl (by decide +kernel) ⟨Nat.le_of_ble_eq_true rfl, Nat.le_of_ble_eq_true rfl⟩) (zpV hK hN hZ hP hD hS hA [0, 1, 2, 3] rfl (by decide) 0 rfl rfl rfl) rfl rfl hl.1 rfl (lv_room (Nat.le_of_ble_eq_true rfl)) dX1_readQ_129 ⟨Nat.zero_le _, Nat.zero_le _⟩) hP hD hS hA [0, 1, 2, 3] [] rfl rfl (by decide) (by decide) (fun r_17 w_16 H locs h_15 hP hD hS => ?_)
                  obtain ⟨rfl, rfl⟩ := h_15
                  have hP : va_P D vwCl [(h, .inr (1, [.ref hl9, .ref ht, .int (nI L), .ref (ad u), .int (nI ((if (q1 < L ∧ T q1 = 41) then q1 + 1 else q1)))])), (hl9, .inr (0, [.ref hc, .int (nI (((c + t1.length)))), .ref hst])), (hc, .inl (cI, 60, .inl ((zapp C c t1)))), (ht, .inl (cI, 60, .inl TB))] H := hP
                  have hD : va_D AA [(h, .inr (1, [.ref hl9, .ref ht, .int (nI L), .ref (ad u), .int (nI ((if (q1 < L ∧ T q1 = 41) then q1 + 1 else q1)))])), (hl9, .inr (0, [.ref hc, .int (nI (((c + t1.length)))), .ref hst])), (hc, .inl (cI, 60, .inl ((zapp C c t1)))), (ht, .inl (cI, 60, .inl TB))] := hD
                  refine lv_if_eq (tgt := 139) hx hb dX1_readQ_132 (by decide) (fun c132_18 => ?_) (fun c132_18 => ?_)
                  · have c132_18 := bI_0.mp c132_18
                    rw [if_neg c132_18] at hP hD
                    have hP : va_P D vwCl [(h, .inr (1, [.ref hl9, .ref ht, .int (nI L), .ref (ad u), .int (nI q1)])), (hl9, .inr (0, [.ref hc, .int (nI (((c + t1.length)))), .ref hst])), (hc, .inl (cI, 60, .inl ((zapp C c t1)))), (ht, .inl (cI, 60, .inl TB))] H := hP
                    have hD : va_D AA [(h, .inr (1, [.ref hl9, .ref ht, .int (nI L), .ref (ad u), .int (nI q1)])), (hl9, .inr (0, [.ref hc, .int (nI (((c + t1.length)))), .ref hst])), (hc, .inl (cI, 60, .inl ((zapp C c t1)))), (ht, .inl (cI, 60, .inl TB))] := hD
                    refine lv_iconst (v := nI 0) hx hb dX1_readQ_139 (by decide) ?_
                    exact hret hP hD hS dX1_readQ_140 rfl (by obtain ⟨e1, e2⟩ := zq_pf hR (by omega) (by assumption) hnx (by omega) hR1 (fun h9 => absurd h9.2 (by assumption)); subst e1; subst e2; exact ⟨_, _, by omega, fun h9 => (by cases h9), (bI_f (by decide)).symm, rfl⟩)
                  · have c132_18 := bI_n0.mp c132_18
                    rw [if_pos c132_18] at hP hD
                    have hP : va_P D vwCl [(h, .inr (1, [.ref hl9, .ref ht, .int (nI L), .ref (ad u), .int (nI (q1 + 1))])), (hl9, .inr (0, [.ref hc, .int (nI (((c + t1.length)))), .ref hst])), (hc, .inl (cI, 60, .inl ((zapp C c t1)))), (ht, .inl (cI, 60, .inl TB))] H := hP
                    have hD : va_D AA [(h, .inr (1, [.ref hl9, .ref ht, .int (nI L), .ref (ad u), .int (nI (q1 + 1))])), (hl9, .inr (0, [.ref hc, .int (nI (((c + t1.length)))), .ref hst])), (hc, .inl (cI, 60, .inl ((zapp C c t1)))), (ht, .inl (cI, 60, .inl TB))] := hD
                    refine lv_iconst (v := nI 1) hx hb dX1_readQ_135 (by decide) ?_
                    refine lv_goto (tgt := 140) hx hb dX1_readQ_136 (by decide) ?_
                    exact hret hP hD hS dX1_readQ_140 rfl (by obtain ⟨e1, e2, e3⟩ := zq_pt hR (by omega) (by assumption) hnx (by omega) hR1 (by assumption) (by assumption); subst e1; subst e2; subst e3; exact ⟨_, _, by omega, fun _ => ⟨rfl, rfl⟩, (bI_t rfl).symm, rfl⟩)
              · have c104_6 : (T p) = 33 := (nI_eq (a := T p) (b := 33) (by have h91 := hT p (by omega); omega) (by have h91 := hT p (by omega); omega)).mp c104_6
                obtain ⟨b1, q1, t1, hR1⟩ : ∃ (b0 : Bool) (q0 : Nat) (t0 : zTks), zQ T L u 4 (p + 1) = (b0, q0, t0) := ⟨_, _, _, rfl⟩
                have hg1 := (zQ_gd (T := T) (L := L) (u := u) 4) (p + 1) (by omega)
                rw [hR1] at hg1
                obtain ⟨hga1, hgb1, hgc1⟩ : (p + 1) ≤ q1 ∧ q1 ≤ L ∧ (b1 = true → (p + 1) < q1 ∧ t1.length ≤ q1 - (p + 1) ∧ zw1 t1) := hg1
                refine lv_aload_n hx hb dX1_readQ_107 rfl (lv_at hl 2 rfl) ?_
                refine lv_iload_n hx hb dX1_readQ_108 rfl (lv_at hl 3 rfl) ?_
                refine lv_iconst (v := nI 1) hx hb dX1_readQ_109 (by decide) ?_
                refine lv_iadd hx hb dX1_readQ_110 ?_
                refine zrw (nI_add _ _) ?_
                refine zci (wr := []) (va_runV (As := [.int (nI 1)]) (rest := []) ⟨hx, hb, hml, hown, hts⟩ (c_X1_readNot_1 l D cI cJ ad bd h hl9 ht hc hst L u T TB (p + 1) c C b1 q1 t1 (by first | rfl | assumption | omega) (by first | rfl | assumption | omega) (by first | rfl | assumption | omega) (by first | rfl | assumption | omega) (by omega) (by omega) hR1 H.size) (cwV 1 hts gX1_readQ_X1_readNot rfl rfl rfl (by decide +kernel) ⟨Nat.le_of_ble_eq_true rfl, Nat.le_of_ble_eq_true rfl⟩) (zpVs hG hK hN hZ hP hD hS hA [0, 1, 2, 3] rfl (by decide) 0 rfl rfl rfl) rfl rfl hl.1 rfl (lv_room (Nat.le_of_ble_eq_true rfl)) dX1_readQ_111 ⟨Nat.zero_le _, Nat.zero_le _⟩) hP hD hS hA [0, 1, 2, 3] [] rfl rfl (by decide) (by decide) (fun r_21 w_20 H locs h_19 hP hD hS => ?_)
                obtain ⟨c9_22, C9_23, hq9_24, hx9_25, rfl, rfl⟩ := h_19
                have hP : va_P D vwCl [(h, .inr (1, [.ref hl9, .ref ht, .int (nI L), .ref (ad u), .int (nI q1)])), (hl9, .inr (0, [.ref hc, .int (nI c9_22), .ref hst])), (hc, .inl (cI, 60, .inl C9_23)), (ht, .inl (cI, 60, .inl TB))] H := hP
                have hD : va_D AA [(h, .inr (1, [.ref hl9, .ref ht, .int (nI L), .ref (ad u), .int (nI q1)])), (hl9, .inr (0, [.ref hc, .int (nI c9_22), .ref hst])), (hc, .inl (cI, 60, .inl C9_23)), (ht, .inl (cI, 60, .inl TB))] := hD
                refine lv_goto (tgt := 140) hx hb dX1_readQ_114 (by decide) ?_
                exact hret hP hD hS dX1_readQ_140 nar_bI (by obtain ⟨e1, e2, e3⟩ := zq_not hR (by omega) (by assumption) hnx (by omega) hR1; subst e1; subst e2; exact ⟨_, _, hq9_24, fun h9 => by rw [e3 h9]; exact hx9_25 h9, rfl, rfl⟩)
            · have c86_5 : ¬ (0 < 5) := fun h9 => c86_5 ((nI_ltI (a := 0) (b := 5) (by omega) (by omega)).mpr h9)
              exact absurd c86_5 (by omega)
          · have c75_4 : ¬ ((T p) = 33) := fun h9 => c75_4 ((nI_eq (a := T p) (b := 33) (by have h91 := hT p (by omega); omega) (by have h91 := hT p (by omega); omega)).mpr h9)
            refine lv_iload_n hx hb dX1_readQ_78 rfl (lv_at hl 1 rfl) ?_
            refine lv_bipush (v := nI 40) hx hb dX1_readQ_79 (by decide) ?_
            refine lv_icmp_ne (tgt := 89) hx hb dX1_readQ_81 (by decide) (fun c81_26 => ?_) (fun c81_26 => ?_)
            · have c81_26 : ¬ ((T p) = 40) := fun h9 => c81_26 ((nI_eq (a := T p) (b := 40) (by have h91 := hT p (by omega); omega) (by have h91 := hT p (by omega); omega)).mpr h9)
              refine lv_iconst (v := nI 0) hx hb dX1_readQ_89 (by decide) ?_
              exact hret hP hD hS dX1_readQ_90 rfl (by obtain ⟨e1, e2⟩ := zq_z hR (by omega) (by assumption) hnx (fun h9 => by have h91 := h9.1; omega) (fun h9 => by have h91 := h9.1; omega); subst e1; subst e2; exact ⟨_, _, hcp, fun h9 => (by cases h9), (bI_f (by decide)).symm, rfl⟩)
            · have c81_26 : (T p) = 40 := (nI_eq (a := T p) (b := 40) (by have h91 := hT p (by omega); omega) (by have h91 := hT p (by omega); omega)).mp c81_26
              refine lv_iload_n hx hb dX1_readQ_84 rfl (lv_at hl 3 rfl) ?_
              refine lv_iconst (v := nI 5) hx hb dX1_readQ_85 (by decide) ?_
              refine lv_icmp_lt (tgt := 91) hx hb dX1_readQ_86 (by decide) (fun c86_27 => ?_) (fun c86_27 => ?_)
              · have c86_27 : 0 < 5 := (nI_ltI (a := 0) (b := 5) (by omega) (by omega)).mp c86_27
                refine lv_aload_n hx hb dX1_readQ_91 rfl (lv_at hl 2 rfl) ?_
                refine lv_dup hx hb dX1_readQ_92 rfl ?_
                refine va_get (ci := 1) (v := .int (nI p)) (C := RX1) (T := TX1) (N := 5) hx hb hts hin1 hown hK hP 0 rfl rfl 4 (by decide) (hts (.fieldLink RX1 32 "UpAllRound$Reader" "place" "I") (List.mem_of_getElem? (i := 1) rfl)) (fun _ h9 => h9) rfl dX1_readQ_93 ?_
                refine lv_iconst (v := nI 1) hx hb dX1_readQ_96 (by decide) ?_
                refine lv_iadd hx hb dX1_readQ_97 ?_
                refine zrw (nI_add _ _) ?_
                refine va_put (ci := 1) (v := .int (nI (p + 1))) (ty := .int) (C := RX1) (T := TX1) (N := 5) hx hb hts hin1 tyX1 tyX1_ok nmX1 hown hK hP hD hS 0 rfl rfl 4 (by decide) (hts (.fieldLink RX1 32 "UpAllRound$Reader" "place" "I") (List.mem_of_getElem? (i := 1) rfl)) (fun _ h9 => h9) rfl (by decide +kernel) rfl rfl (Nat.le_of_ble_eq_true rfl) dX1_readQ_98 (fun H locs hP hD hS => ?_)
                have hP : va_P D vwCl [(h, .inr (1, [.ref hl9, .ref ht, .int (nI L), .ref (ad u), .int (nI (p + 1))])), (hl9, .inr (0, [.ref hc, .int (nI c), .ref hst])), (hc, .inl (cI, 60, .inl C)), (ht, .inl (cI, 60, .inl TB))] H := hP
                have hD : va_D AA [(h, .inr (1, [.ref hl9, .ref ht, .int (nI L), .ref (ad u), .int (nI (p + 1))])), (hl9, .inr (0, [.ref hc, .int (nI c), .ref hst])), (hc, .inl (cI, 60, .inl C)), (ht, .inl (cI, 60, .inl TB))] := hD
                refine lv_iload_n hx hb dX1_readQ_101 rfl (lv_at hl 1 rfl) ?_
                refine lv_bipush (v := nI 33) hx hb dX1_readQ_102 (by decide) ?_
                refine lv_icmp_ne (tgt := 117) hx hb dX1_readQ_104 (by decide) (fun c104_28 => ?_) (fun c104_28 => ?_)
                · have c104_28 : ¬ ((T p) = 33) := fun h9 => c104_28 ((nI_eq (a := T p) (b := 33) (by have h91 := hT p (by omega); omega) (by have h91 := hT p (by omega); omega)).mpr h9)
                  obtain ⟨b1, q1, t1, hR1⟩ : ∃ (b0 : Bool) (q0 : Nat) (t0 : zTks), zLS T L (zQ T L u 4) 5 (p + 1) = (b0, q0, t0) := ⟨_, _, _, rfl⟩
                  have hg1 := (zLS_gd (T := T) (zQ_gd (T := T) (L := L) (u := u) 4) 5) (p + 1) (by omega)
                  rw [hR1] at hg1
                  obtain ⟨hga1, hgb1, hgc1⟩ : (p + 1) ≤ q1 ∧ q1 ≤ L ∧ (b1 = true → (p + 1) < q1 ∧ t1.length ≤ q1 - (p + 1) ∧ zw1 t1) := hg1
                  refine lv_aload_n hx hb dX1_readQ_117 rfl (lv_at hl 2 rfl) ?_
                  refine lv_iconst (v := nI 0) hx hb dX1_readQ_118 (by decide) ?_
                  refine lv_iload_n hx hb dX1_readQ_119 rfl (lv_at hl 3 rfl) ?_
                  refine lv_iconst (v := nI 1) hx hb dX1_readQ_120 (by decide) ?_
                  refine lv_iadd hx hb dX1_readQ_121 ?_
                  refine zrw (nI_add _ _) ?_
                  refine zci (wr := []) (va_runV (As := [.int (nI 0), .int (nI 1)]) (rest := []) ⟨hx, hb, hml, hown, hts⟩ (c_X1_readLevel_0_1 l D cI cJ ad bd h hl9 ht hc hst L u T TB (p + 1) c C b1 q1 t1 (by first | rfl | assumption | omega) (by first | rfl | assumption | omega) (by first | rfl | assumption | omega) (by first | rfl | assumption | omega) (by omega) (by omega) hR1 H.size) (cwV 2 hts gX1_readQ_X1_readLevel rfl rfl rfl (by decide +kernel) ⟨Nat.le_of_ble_eq_true rfl, Nat.le_of_ble_eq_true rfl⟩) (zpVs hG hK hN hZ hP hD hS hA [0, 1, 2, 3] rfl (by decide) 0 rfl rfl rfl) rfl rfl hl.1 rfl (lv_room (Nat.le_of_ble_eq_true rfl)) dX1_readQ_122 ⟨Nat.zero_le _, Nat.zero_le _⟩) hP hD hS hA [0, 1, 2, 3] [] rfl rfl (by decide) (by decide) (fun r_31 w_30 H locs h_29 hP hD hS => ?_)
                  obtain ⟨c9_32, C9_33, hq9_34, hx9_35, rfl, rfl⟩ := h_29
                  have hP : va_P D vwCl [(h, .inr (1, [.ref hl9, .ref ht, .int (nI L), .ref (ad u), .int (nI q1)])), (hl9, .inr (0, [.ref hc, .int (nI c9_32), .ref hst])), (hc, .inl (cI, 60, .inl C9_33)), (ht, .inl (cI, 60, .inl TB))] H := hP
                  have hD : va_D AA [(h, .inr (1, [.ref hl9, .ref ht, .int (nI L), .ref (ad u), .int (nI q1)])), (hl9, .inr (0, [.ref hc, .int (nI c9_32), .ref hst])), (hc, .inl (cI, 60, .inl C9_33)), (ht, .inl (cI, 60, .inl TB))] := hD
                  refine lv_if_eq (tgt := 139) hx hb dX1_readQ_125 (by decide) (fun c125_36 => ?_) (fun c125_36 => ?_)
                  · have c125_36 := bI_0.mp c125_36
                    refine lv_iconst (v := nI 0) hx hb dX1_readQ_139 (by decide) ?_
                    exact hret hP hD hS dX1_readQ_140 rfl (by obtain ⟨e1, e2⟩ := zq_pf hR (by omega) (by assumption) hnx (by omega) hR1 (fun h9 => absurd h9.1 (by assumption)); subst e1; subst e2; exact ⟨_, _, hq9_34, fun h9 => (by cases h9), (bI_f (by decide)).symm, rfl⟩)
                  · have c125_36 := bI_n0.mp c125_36
                    obtain ⟨hgd1, hge1, hgf1⟩ := hgc1 c125_36
                    obtain ⟨he1, hE1⟩ := hx9_35 c125_36
                    subst he1; subst hE1
                    refine lv_aload_n hx hb dX1_readQ_128 rfl (lv_at hl 2 rfl) ?_
                    refine zci (wr := []) (va_runV (As := []) (rest := []) ⟨hx, hb, hml, hown, hts⟩ (c_X1_readClose l D cI cJ ad bd h hl9 ht hc hst L u T TB q1 ((c + t1.length)) (zapp C c t1) (by first | rfl | assumption | omega) (by first | rfl | assumption | omega) (by first | rfl | assumption | omega) (by first | rfl | assumption | omega) (by first | rfl | assumption | omega) H.size) (cwV 0 hts gX1_readQ_X1_readClose rfl rfl rfl (by decide +kernel) ⟨Nat.le_of_ble_eq_true rfl, Nat.le_of_ble_eq_true rfl⟩) (zpV hK hN hZ hP hD hS hA [0, 1, 2, 3] rfl (by decide) 0 rfl rfl rfl) rfl rfl hl.1 rfl (lv_room (Nat.le_of_ble_eq_true rfl)) dX1_readQ_129 ⟨Nat.zero_le _, Nat.zero_le _⟩) hP hD hS hA [0, 1, 2, 3] [] rfl rfl (by decide) (by decide) (fun r_39 w_38 H locs h_37 hP hD hS => ?_)
                    obtain ⟨rfl, rfl⟩ := h_37
                    have hP : va_P D vwCl [(h, .inr (1, [.ref hl9, .ref ht, .int (nI L), .ref (ad u), .int (nI ((if (q1 < L ∧ T q1 = 41) then q1 + 1 else q1)))])), (hl9, .inr (0, [.ref hc, .int (nI (((c + t1.length)))), .ref hst])), (hc, .inl (cI, 60, .inl ((zapp C c t1)))), (ht, .inl (cI, 60, .inl TB))] H := hP
                    have hD : va_D AA [(h, .inr (1, [.ref hl9, .ref ht, .int (nI L), .ref (ad u), .int (nI ((if (q1 < L ∧ T q1 = 41) then q1 + 1 else q1)))])), (hl9, .inr (0, [.ref hc, .int (nI (((c + t1.length)))), .ref hst])), (hc, .inl (cI, 60, .inl ((zapp C c t1)))), (ht, .inl (cI, 60, .inl TB))] := hD
                    refine lv_if_eq (tgt := 139) hx hb dX1_readQ_132 (by decide) (fun c132_40 => ?_) (fun c132_40 => ?_)
                    · have c132_40 := bI_0.mp c132_40
                      rw [if_neg c132_40] at hP hD
                      have hP : va_P D vwCl [(h, .inr (1, [.ref hl9, .ref ht, .int (nI L), .ref (ad u), .int (nI q1)])), (hl9, .inr (0, [.ref hc, .int (nI (((c + t1.length)))), .ref hst])), (hc, .inl (cI, 60, .inl ((zapp C c t1)))), (ht, .inl (cI, 60, .inl TB))] H := hP
                      have hD : va_D AA [(h, .inr (1, [.ref hl9, .ref ht, .int (nI L), .ref (ad u), .int (nI q1)])), (hl9, .inr (0, [.ref hc, .int (nI (((c + t1.length)))), .ref hst])), (hc, .inl (cI, 60, .inl ((zapp C c t1)))), (ht, .inl (cI, 60, .inl TB))] := hD
                      refine lv_iconst (v := nI 0) hx hb dX1_readQ_139 (by decide) ?_
                      exact hret hP hD hS dX1_readQ_140 rfl (by obtain ⟨e1, e2⟩ := zq_pf hR (by omega) (by assumption) hnx (by omega) hR1 (fun h9 => absurd h9.2 (by assumption)); subst e1; subst e2; exact ⟨_, _, by omega, fun h9 => (by cases h9), (bI_f (by decide)).symm, rfl⟩)
                    · have c132_40 := bI_n0.mp c132_40
                      rw [if_pos c132_40] at hP hD
                      have hP : va_P D vwCl [(h, .inr (1, [.ref hl9, .ref ht, .int (nI L), .ref (ad u), .int (nI (q1 + 1))])), (hl9, .inr (0, [.ref hc, .int (nI (((c + t1.length)))), .ref hst])), (hc, .inl (cI, 60, .inl ((zapp C c t1)))), (ht, .inl (cI, 60, .inl TB))] H := hP
                      have hD : va_D AA [(h, .inr (1, [.ref hl9, .ref ht, .int (nI L), .ref (ad u), .int (nI (q1 + 1))])), (hl9, .inr (0, [.ref hc, .int (nI (((c + t1.length)))), .ref hst])), (hc, .inl (cI, 60, .inl ((zapp C c t1)))), (ht, .inl (cI, 60, .inl TB))] := hD
                      refine lv_iconst (v := nI 1) hx hb dX1_readQ_135 (by decide) ?_
                      refine lv_goto (tgt := 140) hx hb dX1_readQ_136 (by decide) ?_
                      exact hret hP hD hS dX1_readQ_140 rfl (by obtain ⟨e1, e2, e3⟩ := zq_pt hR (by omega) (by assumption) hnx (by omega) hR1 (by assumption) (by assumption); subst e1; subst e2; subst e3; exact ⟨_, _, by omega, fun _ => ⟨rfl, rfl⟩, (bI_t rfl).symm, rfl⟩)
                · have c104_28 : (T p) = 33 := (nI_eq (a := T p) (b := 33) (by have h91 := hT p (by omega); omega) (by have h91 := hT p (by omega); omega)).mp c104_28
                  obtain ⟨b1, q1, t1, hR1⟩ : ∃ (b0 : Bool) (q0 : Nat) (t0 : zTks), zQ T L u 4 (p + 1) = (b0, q0, t0) := ⟨_, _, _, rfl⟩
                  have hg1 := (zQ_gd (T := T) (L := L) (u := u) 4) (p + 1) (by omega)
                  rw [hR1] at hg1
                  obtain ⟨hga1, hgb1, hgc1⟩ : (p + 1) ≤ q1 ∧ q1 ≤ L ∧ (b1 = true → (p + 1) < q1 ∧ t1.length ≤ q1 - (p + 1) ∧ zw1 t1) := hg1
                  refine lv_aload_n hx hb dX1_readQ_107 rfl (lv_at hl 2 rfl) ?_
                  refine lv_iload_n hx hb dX1_readQ_108 rfl (lv_at hl 3 rfl) ?_
                  refine lv_iconst (v := nI 1) hx hb dX1_readQ_109 (by decide) ?_
                  refine lv_iadd hx hb dX1_readQ_110 ?_
                  refine zrw (nI_add _ _) ?_
                  refine zci (wr := []) (va_runV (As := [.int (nI 1)]) (rest := []) ⟨hx, hb, hml, hown, hts⟩ (c_X1_readNot_1 l D cI cJ ad bd h hl9 ht hc hst L u T TB (p + 1) c C b1 q1 t1 (by first | rfl | assumption | omega) (by first | rfl | assumption | omega) (by first | rfl | assumption | omega) (by first | rfl | assumption | omega) (by omega) (by omega) hR1 H.size) (cwV 1 hts gX1_readQ_X1_readNot rfl rfl rfl (by decide +kernel) ⟨Nat.le_of_ble_eq_true rfl, Nat.le_of_ble_eq_true rfl⟩) (zpVs hG hK hN hZ hP hD hS hA [0, 1, 2, 3] rfl (by decide) 0 rfl rfl rfl) rfl rfl hl.1 rfl (lv_room (Nat.le_of_ble_eq_true rfl)) dX1_readQ_111 ⟨Nat.zero_le _, Nat.zero_le _⟩) hP hD hS hA [0, 1, 2, 3] [] rfl rfl (by decide) (by decide) (fun r_43 w_42 H locs h_41 hP hD hS => ?_)
                  obtain ⟨c9_44, C9_45, hq9_46, hx9_47, rfl, rfl⟩ := h_41
                  have hP : va_P D vwCl [(h, .inr (1, [.ref hl9, .ref ht, .int (nI L), .ref (ad u), .int (nI q1)])), (hl9, .inr (0, [.ref hc, .int (nI c9_44), .ref hst])), (hc, .inl (cI, 60, .inl C9_45)), (ht, .inl (cI, 60, .inl TB))] H := hP
                  have hD : va_D AA [(h, .inr (1, [.ref hl9, .ref ht, .int (nI L), .ref (ad u), .int (nI q1)])), (hl9, .inr (0, [.ref hc, .int (nI c9_44), .ref hst])), (hc, .inl (cI, 60, .inl C9_45)), (ht, .inl (cI, 60, .inl TB))] := hD
                  refine lv_goto (tgt := 140) hx hb dX1_readQ_114 (by decide) ?_
                  exact hret hP hD hS dX1_readQ_140 nar_bI (by obtain ⟨e1, e2, e3⟩ := zq_not hR (by omega) (by assumption) hnx (by omega) hR1; subst e1; subst e2; exact ⟨_, _, hq9_46, fun h9 => by rw [e3 h9]; exact hx9_47 h9, rfl, rfl⟩)
              · have c86_27 : ¬ (0 < 5) := fun h9 => c86_27 ((nI_ltI (a := 0) (b := 5) (by omega) (by omega)).mpr h9)
                exact absurd c86_27 (by omega)
        · exact absurd (by decide) c47_3
      · have hj3 := (znx_ch hnx).2
        refine zrw (show zbw (some j) = nI j from rfl) ?_
        refine lv_istore_n (lv' := [(3, .int (nI j)), (2, .int (nI (T p))), (0, .ref h), (1, .int (nI 0))]) hx hb dX1_readQ_45 rfl hl (by decide) rfl (fun ls hl => ?_)
        refine lv_iload_n hx hb dX1_readQ_46 rfl (lv_at hl 0 rfl) ?_
        refine lv_if_lt (tgt := 72) hx hb dX1_readQ_47 (by decide) (fun c47_48 => ?_) (fun c47_48 => ?_)
        · have c47_48 : j < 0 := (nI_ltI (a := j) (b := 0) (by omega) (by omega)).mp c47_48
          exact absurd c47_48 (by omega)
        · have c47_48 : ¬ (j < 0) := fun h9 => c47_48 ((nI_ltI (a := j) (b := 0) (by omega) (by omega)).mpr h9)
          refine lv_aload_n hx hb dX1_readQ_50 rfl (lv_at hl 2 rfl) ?_
          refine lv_dup hx hb dX1_readQ_51 rfl ?_
          refine va_get (ci := 1) (v := .int (nI p)) (C := RX1) (T := TX1) (N := 5) hx hb hts hin1 hown hK hP 0 rfl rfl 4 (by decide) (hts (.fieldLink RX1 32 "UpAllRound$Reader" "place" "I") (List.mem_of_getElem? (i := 1) rfl)) (fun _ h9 => h9) rfl dX1_readQ_52 ?_
          refine lv_iconst (v := nI 1) hx hb dX1_readQ_55 (by decide) ?_
          refine lv_iadd hx hb dX1_readQ_56 ?_
          refine zrw (nI_add _ _) ?_
          refine va_put (ci := 1) (v := .int (nI (p + 1))) (ty := .int) (C := RX1) (T := TX1) (N := 5) hx hb hts hin1 tyX1 tyX1_ok nmX1 hown hK hP hD hS 0 rfl rfl 4 (by decide) (hts (.fieldLink RX1 32 "UpAllRound$Reader" "place" "I") (List.mem_of_getElem? (i := 1) rfl)) (fun _ h9 => h9) rfl (by decide +kernel) rfl rfl (Nat.le_of_ble_eq_true rfl) dX1_readQ_57 (fun H locs hP hD hS => ?_)
          have hP : va_P D vwCl [(h, .inr (1, [.ref hl9, .ref ht, .int (nI L), .ref (ad u), .int (nI (p + 1))])), (hl9, .inr (0, [.ref hc, .int (nI c), .ref hst])), (hc, .inl (cI, 60, .inl C)), (ht, .inl (cI, 60, .inl TB))] H := hP
          have hD : va_D AA [(h, .inr (1, [.ref hl9, .ref ht, .int (nI L), .ref (ad u), .int (nI (p + 1))])), (hl9, .inr (0, [.ref hc, .int (nI c), .ref hst])), (hc, .inl (cI, 60, .inl C)), (ht, .inl (cI, 60, .inl TB))] := hD
          refine lv_aload_n hx hb dX1_readQ_60 rfl (lv_at hl 2 rfl) ?_
          refine va_get (ci := 1) (v := .ref hl9) (C := RX1) (T := TX1) (N := 5) hx hb hts hin1 hown hK hP 0 rfl rfl 0 (by decide) (hts (.fieldLink RX1 12 "UpAllRound$Reader" "law" "LUpAllRound$Law;") (List.mem_of_getElem? (i := 5) rfl)) (fun _ h9 => h9) rfl dX1_readQ_61 ?_
          refine lv_iconst (v := (-1)) hx hb dX1_readQ_64 (by decide) ?_
          refine lv_iload_n hx hb dX1_readQ_65 rfl (lv_at hl 0 rfl) ?_
          refine lv_isub hx hb dX1_readQ_66 ?_
          refine zcv (wr := [(h, .inr (1, [.ref hl9, .ref ht, .int (nI L), .ref (ad u), .int (nI (p + 1))])), (ht, .inl (cI, 60, .inl TB))]) (va_runVN (As := [.int (((-1)) - (nI j))]) (rest := []) ⟨hx, hb, hml, hown, hts⟩ (c_X0_add l D cI cJ hl9 hc hst c C (((-1)) - (nI j)) (by omega) H.size) ⟨va_cnB 1 hts gX1_readQ_X0_add_n61 rfl rfl rfl (hN (.methodLinkNest "UpAllRound$Reader" 61 yX0_add "UpAllRound") (List.mem_of_getElem? (i := 38) rfl)) (hts (.initialized RX0) (List.mem_of_getElem? (i := 15) rfl)) (by decide +kernel) ⟨Nat.le_of_ble_eq_true rfl, Nat.le_of_ble_eq_true rfl⟩, (hts (.instanceMethod yX0_add) (List.mem_of_getElem? (i := 14) rfl)), (hts (.selects RX0 yX0_add yX0_add) (List.mem_of_getElem? (i := 16) rfl))⟩ (zpV hK hN hZ hP hD hS hA [1, 2] rfl (by decide) 1 rfl rfl rfl) rfl rfl hl.1 rfl (lv_room (Nat.le_of_ble_eq_true rfl)) dX1_readQ_67 ⟨Nat.zero_le _, Nat.zero_le _⟩) hP hD hS hA [1, 2] [0, 3] rfl rfl (by decide) (by decide) (fun w_50 H locs h_49 hP hD hS => ?_)
          obtain rfl := h_49
          have hP : va_P D vwCl [(h, .inr (1, [.ref hl9, .ref ht, .int (nI L), .ref (ad u), .int (nI (p + 1))])), (ht, .inl (cI, 60, .inl TB)), (hl9, .inr (0, [.ref hc, .int (nI (c + 1)), .ref hst])), (hc, .inl (cI, 60, .inl (upd C c (((-1)) - (nI j)))))] H := hP
          have hD : va_D AA [(h, .inr (1, [.ref hl9, .ref ht, .int (nI L), .ref (ad u), .int (nI (p + 1))])), (ht, .inl (cI, 60, .inl TB)), (hl9, .inr (0, [.ref hc, .int (nI (c + 1)), .ref hst])), (hc, .inl (cI, 60, .inl (upd C c (((-1)) - (nI j)))))] := hD
          refine lv_iconst (v := nI 1) hx hb dX1_readQ_70 (by decide) ?_
          have hP := hP.sub (ws' := [(h, .inr (1, [.ref hl9, .ref ht, .int (nI L), .ref (ad u), .int (nI (p + 1))])), (hl9, .inr (0, [.ref hc, .int (nI (c + 1)), .ref hst])), (hc, .inl (cI, 60, .inl (upd C c (((-1)) - (nI j))))), (ht, .inl (cI, 60, .inl TB))]) [0, 2, 3, 1] rfl
          have hD := hD.sub (ws' := [(h, .inr (1, [.ref hl9, .ref ht, .int (nI L), .ref (ad u), .int (nI (p + 1))])), (hl9, .inr (0, [.ref hc, .int (nI (c + 1)), .ref hst])), (hc, .inl (cI, 60, .inl (upd C c (((-1)) - (nI j))))), (ht, .inl (cI, 60, .inl TB))]) [0, 2, 3, 1] (by decide) rfl
          exact hret hP hD hS dX1_readQ_71 rfl (by obtain ⟨e1, e2, e3⟩ := zq_n hR (by omega) (by assumption) hnx; subst e1; subst e2; subst e3; exact ⟨_, _, show c + 1 ≤ p + 1 from (by omega), fun _ => ⟨rfl, rfl⟩, (bI_t rfl).symm, rfl⟩)
    · have c27_2 := bI_n0.mp c27_2
      refine lv_aload_n hx hb dX1_readQ_30 rfl (lv_at hl 1 rfl) ?_
      refine zcv (wr := []) (va_runV (As := []) (rest := []) ⟨hx, hb, hml, hown, hts⟩ (c_X1_readNumber l D cI cJ ad bd h hl9 ht hc hst L u T TB p c C (by first | rfl | assumption | omega) (by first | rfl | assumption | omega) (by first | rfl | assumption | omega) (by first | rfl | assumption | omega) (by first | rfl | assumption | omega) (by omega) s.heap.size) (cwV 0 hts gX1_readQ_X1_readNumber rfl rfl rfl (by decide +kernel) ⟨Nat.le_of_ble_eq_true rfl, Nat.le_of_ble_eq_true rfl⟩) (zpV hK hN hZ hP hD hS hA [0, 1, 2, 3] rfl (by decide) 0 rfl rfl rfl) rfl rfl hl.1 rfl (lv_room (Nat.le_of_ble_eq_true rfl)) dX1_readQ_31 ⟨Nat.zero_le _, Nat.zero_le _⟩) hP hD hS hA [0, 1, 2, 3] [] rfl rfl (by decide) (by decide) (fun w_52 H locs h_51 hP hD hS => ?_)
      obtain rfl := h_51
      have hP : va_P D vwCl [(h, .inr (1, [.ref hl9, .ref ht, .int (nI L), .ref (ad u), .int (nI ((zNm T L 4 p 0).1))])), (hl9, .inr (0, [.ref hc, .int (nI ((c + 1))), .ref hst])), (hc, .inl (cI, 60, .inl (upd C c (nI (zNm T L 4 p 0).2)))), (ht, .inl (cI, 60, .inl TB))] H := hP
      have hD : va_D AA [(h, .inr (1, [.ref hl9, .ref ht, .int (nI L), .ref (ad u), .int (nI ((zNm T L 4 p 0).1))])), (hl9, .inr (0, [.ref hc, .int (nI ((c + 1))), .ref hst])), (hc, .inl (cI, 60, .inl (upd C c (nI (zNm T L 4 p 0).2)))), (ht, .inl (cI, 60, .inl TB))] := hD
      refine lv_iconst (v := nI 1) hx hb dX1_readQ_34 (by decide) ?_
      exact hret hP hD hS dX1_readQ_35 rfl (by obtain ⟨e1, e2, e3⟩ := zq_d hR (by omega) (by assumption); subst e1; subst e2; subst e3; exact ⟨_, _, show c + 1 ≤ _ from (by have h91 := zNm_4 (T := T) (L := L) (p := p) (by omega) (by assumption); omega), fun _ => ⟨rfl, rfl⟩, (bI_t rfl).symm, rfl⟩)
  · have c8_1 : ¬ (p < L) := fun h9 => c8_1 ((nI_ltI (a := p) (b := L) (by omega) (by omega)).mpr h9)
    refine lv_iconst (v := nI 0) hx hb dX1_readQ_11 (by decide) ?_
    exact hret hP hD hS dX1_readQ_12 rfl (by obtain ⟨e1, e2⟩ := zq_o hR (by omega); subst e1; subst e2; exact ⟨_, _, hcp, fun h9 => (by cases h9), (bI_f (by decide)).symm, rfl⟩)
set_option maxHeartbeats 4000000 in
set_option maxRecDepth 100000 in
theorem c_X1_readPart_4_0 (l : Launch) (D : va_G) (cI cJ : ClassId) (ad : Nat → Nat) (bd : Nat → Nat) (h : Nat) (hl9 : Nat) (ht : Nat) (hc : Nat) (hst : Nat) (L : Nat) (u : Nat) (T : Nat → Nat) (TB : Nat → Int32) (p : Nat) (c : Nat) (C : Nat → Int32) (b : Bool) (q : Nat) (tl : zTks) (hL : L ≤ 60) (hu1 : u ≤ 1) (hT : ∀ i, i < L → T i < 256) (htb : ∀ i, i < L → TB i = nI (T i)) (hp : p ≤ L) (hcp : c ≤ p) (hR : zLS T L (zQ T L u 5) 0 p = (b, q, tl)) : zTi ad bd l yX1_readPart wsX1_readPart ({ frames := 60, cells := 0, slots := 0, locals := 1404 } : Room) D [(cI, .int), (cJ, .array .int)] [.ref h, .int (nI 4), .int (nI 0)] [(h, .inr (1, [.ref hl9, .ref ht, .int (nI L), .ref (ad u), .int (nI p)])), (hl9, .inr (0, [.ref hc, .int (nI c), .ref hst])), (hc, .inl (cI, 60, .inl C)), (ht, .inl (cI, 60, .inl TB))] (fun r w => ∃ (c9 : Nat) (C9 : Nat → Int32), c9 ≤ q ∧ (b = true → c9 = c + tl.length ∧ C9 = zapp C c tl) ∧ r = bI (b = true) ∧ w = [(h, .inr (1, [.ref hl9, .ref ht, .int (nI L), .ref (ad u), .int (nI q)])), (hl9, .inr (0, [.ref hc, .int (nI c9), .ref hst])), (hc, .inl (cI, 60, .inl C9)), (ht, .inl (cI, 60, .inl TB))]) := by
  refine zTi.start (cc := cX1_readPart) (maxL := 3) (rt := .boolean) (by first | decide | decide +kernel) rfl (Nat.le_of_ble_eq_true rfl) ?_
  intro pg ev s mt args below meth cd ls AA QQ ⟨hx, hb, hml, hr, hlocks, hown, hts, hK, hN, hZ, hP, hD, hA, hS, hl⟩ hG hret
  have hown : s.vm.findClass RX1 = some mt.cls := hown
  have hl : lv_has ls 3 [(0, .ref h), (1, .int (nI 4)), (2, .int (nI 0))] := hl
  have hin0 : ∀ w ∈ wsX00, w ∈ wsX1_readPart := fun w h => List.mem_cons_of_mem _ (List.mem_append_right _ (h))
  have hin1 : ∀ w ∈ wsX10, w ∈ wsX1_readPart := fun w h => List.mem_cons_of_mem _ (List.mem_append_left _ (List.mem_append_right _ (h)))
  refine lv_iload_n hx hb dX1_readPart_0 rfl (lv_at hl 1 rfl) ?_
  refine lv_iconst (v := nI 1) hx hb dX1_readPart_1 (by decide) ?_
  refine lv_iadd hx hb dX1_readPart_2 ?_
  refine zrw (nI_add _ _) ?_
  refine lv_iconst (v := nI 5) hx hb dX1_readPart_3 (by decide) ?_
  refine lv_icmp_ge (tgt := 18) hx hb dX1_readPart_4 (by decide) (fun c4_1 => ?_) (fun c4_1 => ?_)
  · have c4_1 : 5 ≤ 5 := (nI_leI (a := 5) (b := 5) (by omega) (by omega)).mp c4_1
    refine lv_aload_n hx hb dX1_readPart_18 rfl (lv_at hl 0 rfl) ?_
    refine lv_iload_n hx hb dX1_readPart_19 rfl (lv_at hl 2 rfl) ?_
    refine zci (wr := []) (va_runV (As := [.int (nI 0)]) (rest := []) ⟨hx, hb, hml, hown, hts⟩ (c_X1_readQ_0 l D cI cJ ad bd h hl9 ht hc hst L u T TB p c C b q tl (by first | rfl | assumption | omega) (by first | rfl | assumption | omega) (by first | rfl | assumption | omega) (by first | rfl | assumption | omega) (by first | rfl | assumption | omega) (by first | rfl | assumption | omega) hR s.heap.size) (cwV 1 hts gX1_readPart_X1_readQ rfl rfl rfl (by decide +kernel) ⟨Nat.le_of_ble_eq_true rfl, Nat.le_of_ble_eq_true rfl⟩) (zpVs hG hK hN hZ hP hD hS hA [0, 1, 2, 3] rfl (by decide) 0 rfl rfl rfl) rfl rfl hl.1 rfl (lv_room (Nat.le_of_ble_eq_true rfl)) dX1_readPart_20 ⟨Nat.zero_le _, Nat.zero_le _⟩) hP hD hS hA [0, 1, 2, 3] [] rfl rfl (by decide) (by decide) (fun r_4 w_3 H locs h_2 hP hD hS => ?_)
    obtain ⟨c9_5, C9_6, hq9_7, hx9_8, rfl, rfl⟩ := h_2
    have hP : va_P D vwCl [(h, .inr (1, [.ref hl9, .ref ht, .int (nI L), .ref (ad u), .int (nI q)])), (hl9, .inr (0, [.ref hc, .int (nI c9_5), .ref hst])), (hc, .inl (cI, 60, .inl C9_6)), (ht, .inl (cI, 60, .inl TB))] H := hP
    have hD : va_D AA [(h, .inr (1, [.ref hl9, .ref ht, .int (nI L), .ref (ad u), .int (nI q)])), (hl9, .inr (0, [.ref hc, .int (nI c9_5), .ref hst])), (hc, .inl (cI, 60, .inl C9_6)), (ht, .inl (cI, 60, .inl TB))] := hD
    exact hret hP hD hS dX1_readPart_23 nar_bI (by exact ⟨_, _, hq9_7, hx9_8, rfl, rfl⟩)
  · have c4_1 : ¬ (5 ≤ 5) := fun h9 => c4_1 ((nI_leI (a := 5) (b := 5) (by omega) (by omega)).mpr h9)
    exact absurd c4_1 (by omega)
set_option maxHeartbeats 4000000 in
set_option maxRecDepth 100000 in
theorem c_X1_readLevel_4_0 (l : Launch) (D : va_G) (cI cJ : ClassId) (ad : Nat → Nat) (bd : Nat → Nat) (h : Nat) (hl9 : Nat) (ht : Nat) (hc : Nat) (hst : Nat) (L : Nat) (u : Nat) (T : Nat → Nat) (TB : Nat → Int32) (p : Nat) (c : Nat) (C : Nat → Int32) (b : Bool) (q : Nat) (tl : zTks) (hL : L ≤ 60) (hu1 : u ≤ 1) (hT : ∀ i, i < L → T i < 256) (htb : ∀ i, i < L → TB i = nI (T i)) (hp : p ≤ L) (hcp : c ≤ p) (hR : zLS T L (zQ T L u 5) 1 p = (b, q, tl)) : zTi ad bd l yX1_readLevel wsX1_readLevel ({ frames := 61, cells := 0, slots := 0, locals := 1426 } : Room) D [(cI, .int), (cJ, .array .int)] [.ref h, .int (nI 4), .int (nI 0)] [(h, .inr (1, [.ref hl9, .ref ht, .int (nI L), .ref (ad u), .int (nI p)])), (hl9, .inr (0, [.ref hc, .int (nI c), .ref hst])), (hc, .inl (cI, 60, .inl C)), (ht, .inl (cI, 60, .inl TB))] (fun r w => ∃ (c9 : Nat) (C9 : Nat → Int32), c9 ≤ q ∧ (b = true → c9 = c + tl.length ∧ C9 = zapp C c tl) ∧ r = bI (b = true) ∧ w = [(h, .inr (1, [.ref hl9, .ref ht, .int (nI L), .ref (ad u), .int (nI q)])), (hl9, .inr (0, [.ref hc, .int (nI c9), .ref hst])), (hc, .inl (cI, 60, .inl C9)), (ht, .inl (cI, 60, .inl TB))]) := by
  refine zTi.start (cc := cX1_readLevel) (maxL := 6) (rt := .boolean) (by first | decide | decide +kernel) rfl (Nat.le_of_ble_eq_true rfl) ?_
  intro pg ev s mt args below meth cd ls AA QQ ⟨hx, hb, hml, hr, hlocks, hown, hts, hK, hN, hZ, hP, hD, hA, hS, hl⟩ hG hret
  have hown : s.vm.findClass RX1 = some mt.cls := hown
  have hl : lv_has ls 6 [(0, .ref h), (1, .int (nI 4)), (2, .int (nI 0))] := hl
  have hin0 : ∀ w ∈ wsX00, w ∈ wsX1_readLevel := fun w h => List.mem_cons_of_mem _ (List.mem_append_right _ (h))
  have hin1 : ∀ w ∈ wsX10, w ∈ wsX1_readLevel := fun w h => List.mem_cons_of_mem _ (List.mem_append_left _ (List.mem_append_right _ (h)))
  have hR : zLv T L 4 (zLS T L (zQ T L u 5) 0) p = (b, q, tl) := hR
  obtain ⟨b1, q1, t1, hR1⟩ : ∃ (b0 : Bool) (q0 : Nat) (t0 : zTks), zLS T L (zQ T L u 5) 0 p = (b0, q0, t0) := ⟨_, _, _, rfl⟩
  have hg1 := (zLS_gd (T := T) (zQ_gd (T := T) (L := L) (u := u) 5) 0) p (by omega)
  rw [hR1] at hg1
  obtain ⟨hga1, hgb1, hgc1⟩ : p ≤ q1 ∧ q1 ≤ L ∧ (b1 = true → p < q1 ∧ t1.length ≤ q1 - p ∧ zw1 t1) := hg1
  refine lv_aload_n hx hb dX1_readLevel_0 rfl (lv_at hl 0 rfl) ?_
  refine lv_iload_n hx hb dX1_readLevel_1 rfl (lv_at hl 1 rfl) ?_
  refine lv_iload_n hx hb dX1_readLevel_2 rfl (lv_at hl 2 rfl) ?_
  refine zci (wr := []) (va_runV (As := [.int (nI 4), .int (nI 0)]) (rest := []) ⟨hx, hb, hml, hown, hts⟩ (c_X1_readPart_4_0 l D cI cJ ad bd h hl9 ht hc hst L u T TB p c C b1 q1 t1 (by first | rfl | assumption | omega) (by first | rfl | assumption | omega) (by first | rfl | assumption | omega) (by first | rfl | assumption | omega) (by first | rfl | assumption | omega) (by first | rfl | assumption | omega) hR1 s.heap.size) (cwV 2 hts gX1_readLevel_X1_readPart rfl rfl rfl (by decide +kernel) ⟨Nat.le_of_ble_eq_true rfl, Nat.le_of_ble_eq_true rfl⟩) (zpVs hG hK hN hZ hP hD hS hA [0, 1, 2, 3] rfl (by decide) 0 rfl rfl rfl) rfl rfl hl.1 rfl (lv_room (Nat.le_of_ble_eq_true rfl)) dX1_readLevel_3 ⟨Nat.zero_le _, Nat.zero_le _⟩) hP hD hS hA [0, 1, 2, 3] [] rfl rfl (by decide) (by decide) (fun r_3 w_2 H locs h_1 hP hD hS => ?_)
  obtain ⟨c9_4, C9_5, hq9_6, hx9_7, rfl, rfl⟩ := h_1
  have hP : va_P D vwCl [(h, .inr (1, [.ref hl9, .ref ht, .int (nI L), .ref (ad u), .int (nI q1)])), (hl9, .inr (0, [.ref hc, .int (nI c9_4), .ref hst])), (hc, .inl (cI, 60, .inl C9_5)), (ht, .inl (cI, 60, .inl TB))] H := hP
  have hD : va_D AA [(h, .inr (1, [.ref hl9, .ref ht, .int (nI L), .ref (ad u), .int (nI q1)])), (hl9, .inr (0, [.ref hc, .int (nI c9_4), .ref hst])), (hc, .inl (cI, 60, .inl C9_5)), (ht, .inl (cI, 60, .inl TB))] := hD
  refine lv_if_ne (tgt := 11) hx hb dX1_readLevel_6 (by decide) (fun c6_8 => ?_) (fun c6_8 => ?_)
  · have c6_8 := bI_n0.mp c6_8
    obtain ⟨hgd1, hge1, hgf1⟩ := hgc1 c6_8
    obtain ⟨he1, hE1⟩ := hx9_7 c6_8
    subst he1; subst hE1
    have hz := zLv_tt hR hR1 c6_8
    refine lv_iload_n hx hb dX1_readLevel_11 rfl (lv_at hl 1 rfl) ?_
    refine lv_iconst (v := nI 2) hx hb dX1_readLevel_12 (by decide) ?_
    refine lv_icmp_ne (tgt := 20) hx hb dX1_readLevel_13 (by decide) (fun c13_9 => ?_) (fun c13_9 => ?_)
    · have c13_9 : ¬ (4 = 2) := fun h9 => c13_9 ((nI_eq (a := 4) (b := 2) (by omega) (by omega)).mpr h9)
      refine lv_bipush (v := nI 60) hx hb dX1_readLevel_20 (by decide) ?_
      refine lv_istore_n (lv' := [(3, .int (nI 60)), (0, .ref h), (1, .int (nI 4)), (2, .int (nI 0))]) hx hb dX1_readLevel_22 rfl hl (by decide) rfl (fun ls hl => ?_)
      refine lv_iconst (v := nI 0) hx hb dX1_readLevel_23 (by decide) ?_
      refine lv_istore (lv' := [(4, .int (nI 0)), (3, .int (nI 60)), (0, .ref h), (1, .int (nI 4)), (2, .int (nI 0))]) hx hb dX1_readLevel_24 hl (by decide) rfl (fun ls hl => ?_)
      have L_26 : ∀ (fu : Nat) (f : Nat) (pv : Nat) (ta : zTks) (i : Nat) (hn : f < fu) (hz : zct ta (zLp T L 4 (zLS T L (zQ T L u 5) 0) f pv) = (b, q, tl)) (hf : L - pv < f) (hpv : pv ≤ L) (hca : c + ta.length ≤ pv) (hi1 : i + 1 ≤ pv), ∀ (ls : Array Slot), lv_has ls 6 [(0, .ref h), (1, .int (nI 4)), (2, .int (nI 0)), (3, .int (nI 60)), (4, .int (nI i))] → ∀ (H : Heap) (locs : List Loc), va_P D vwCl [(h, .inr (1, [.ref hl9, .ref ht, .int (nI L), .ref (ad u), .int (nI pv)])), (hl9, .inr (0, [.ref hc, .int (nI ((c + ta.length))), .ref hst])), (hc, .inl (cI, 60, .inl (zapp C c ta))), (ht, .inl (cI, 60, .inl TB))] H → va_D AA [(h, .inr (1, [.ref hl9, .ref ht, .int (nI L), .ref (ad u), .int (nI pv)])), (hl9, .inr (0, [.ref hc, .int (nI ((c + ta.length))), .ref hst])), (hc, .inl (cI, 60, .inl (zapp C c ta))), (ht, .inl (cI, 60, .inl TB))] → va_S AA s.heap H locs → W pg l ev ({ frames := 61, cells := 0, slots := 0, locals := 1426 } : Room) s mt args below meth cd H locs 0 0 QQ (F0 mt 26 ls []) := by
        intro fu
        induction fu with
        | zero =>
          intro  f pv ta i  hn
          exact absurd hn (by omega)
        | succ fu ih_26 =>
          intro  f pv ta i  hn hz hf hpv hca hi1 ls hl H locs hP hD hS
          obtain ⟨f1, rfl⟩ : ∃ f1, f = f1 + 1 := ⟨f - 1, by omega⟩
          refine lv_iload hx hb dX1_readLevel_26 (lv_at hl 4 rfl) ?_
          refine lv_iload_n hx hb dX1_readLevel_28 rfl (lv_at hl 3 rfl) ?_
          refine lv_icmp_ge (tgt := 107) hx hb dX1_readLevel_29 (by decide) (fun c29_10 => ?_) (fun c29_10 => ?_)
          · have c29_10 : 60 ≤ i := (nI_leI (a := 60) (b := i) (by omega) (by omega)).mp c29_10
            exact absurd c29_10 (by omega)
          · have c29_10 : ¬ (60 ≤ i) := fun h9 => c29_10 ((nI_leI (a := 60) (b := i) (by omega) (by omega)).mpr h9)
            refine lv_aload_n hx hb dX1_readLevel_32 rfl (lv_at hl 0 rfl) ?_
            refine va_get (ci := 1) (v := .int (nI pv)) (C := RX1) (T := TX1) (N := 5) hx hb hts hin1 hown hK hP 0 rfl rfl 4 (by decide) (hts (.fieldLink RX1 32 "UpAllRound$Reader" "place" "I") (List.mem_of_getElem? (i := 1) rfl)) (fun _ h9 => h9) rfl dX1_readLevel_33 ?_
            refine lv_aload_n hx hb dX1_readLevel_36 rfl (lv_at hl 0 rfl) ?_
            refine va_get (ci := 1) (v := .int (nI L)) (C := RX1) (T := TX1) (N := 5) hx hb hts hin1 hown hK hP 0 rfl rfl 2 (by decide) (hts (.fieldLink RX1 22 "UpAllRound$Reader" "length" "I") (List.mem_of_getElem? (i := 2) rfl)) (fun _ h9 => h9) rfl dX1_readLevel_37 ?_
            refine lv_icmp_ge (tgt := 107) hx hb dX1_readLevel_40 (by decide) (fun c40_11 => ?_) (fun c40_11 => ?_)
            · have c40_11 : L ≤ pv := (nI_leI (a := L) (b := pv) (by omega) (by omega)).mp c40_11
              refine lv_iconst (v := nI 1) hx hb dX1_readLevel_107 (by decide) ?_
              exact hret hP hD hS dX1_readLevel_108 rfl (by obtain ⟨e1, e2, e3⟩ := zLe (f := f1) hz (by omega); subst e1; subst e2; subst e3; exact ⟨_, _, by omega, fun _ => ⟨rfl, rfl⟩, (bI_t rfl).symm, rfl⟩)
            · have c40_11 : ¬ (L ≤ pv) := fun h9 => c40_11 ((nI_leI (a := L) (b := pv) (by omega) (by omega)).mpr h9)
              refine lv_aload_n hx hb dX1_readLevel_43 rfl (lv_at hl 0 rfl) ?_
              refine va_get (ci := 1) (v := .ref ht) (C := RX1) (T := TX1) (N := 5) hx hb hts hin1 hown hK hP 0 rfl rfl 1 (by decide) (hts (.fieldLink RX1 18 "UpAllRound$Reader" "tape" "[I") (List.mem_of_getElem? (i := 3) rfl)) (fun _ h9 => h9) rfl dX1_readLevel_44 ?_
              refine lv_aload_n hx hb dX1_readLevel_47 rfl (lv_at hl 0 rfl) ?_
              refine va_get (ci := 1) (v := .int (nI pv)) (C := RX1) (T := TX1) (N := 5) hx hb hts hin1 hown hK hP 0 rfl rfl 4 (by decide) (hts (.fieldLink RX1 32 "UpAllRound$Reader" "place" "I") (List.mem_of_getElem? (i := 1) rfl)) (fun _ h9 => h9) rfl dX1_readLevel_48 ?_
              refine zald (t := pv) hx hb hK hP 3 rfl (by omega) (by decide) dX1_readLevel_51 ?_
              refine zrw (htb pv (by omega)) ?_
              refine zcsE (va_runS (As := [.int (nI (T pv))]) (rest := []) ⟨hx, hb, hml, hown, hts⟩ (c_X1_levelOf l D cI cJ (T pv) (hT pv (by omega)) H.size) (va_cwS 1 hts gX1_readLevel_X1_levelOf rfl rfl rfl (by decide +kernel) ⟨Nat.le_of_ble_eq_true rfl, Nat.le_of_ble_eq_true rfl⟩) (zpS hK hN hZ hP hD hS hA [] rfl (by decide)) rfl rfl hl.1 rfl (lv_room (Nat.le_of_ble_eq_true rfl)) dX1_readLevel_52 ⟨Nat.zero_le _, Nat.zero_le _⟩) ?_
              refine lv_iload_n hx hb dX1_readLevel_55 rfl (lv_at hl 1 rfl) ?_
              refine lv_icmp_ne (tgt := 107) hx hb dX1_readLevel_56 (by decide) (fun c56_12 => ?_) (fun c56_12 => ?_)
              · have c56_12 : ¬ (((zlv (T pv))) = 4) := fun h9 => c56_12 ((nI_eq (a := (zlv (T pv))) (b := 4) (by have h91 := zlv_le (T pv); omega) (by have h91 := zlv_le (T pv); omega)).mpr h9)
                refine lv_iconst (v := nI 1) hx hb dX1_readLevel_107 (by decide) ?_
                exact hret hP hD hS dX1_readLevel_108 rfl (by obtain ⟨e1, e2, e3⟩ := zLe (f := f1) hz (by omega); subst e1; subst e2; subst e3; exact ⟨_, _, by omega, fun _ => ⟨rfl, rfl⟩, (bI_t rfl).symm, rfl⟩)
              · have c56_12 : ((zlv (T pv))) = 4 := (nI_eq (a := (zlv (T pv))) (b := 4) (by have h91 := zlv_le (T pv); omega) (by have h91 := zlv_le (T pv); omega)).mp c56_12
                refine lv_aload_n hx hb dX1_readLevel_59 rfl (lv_at hl 0 rfl) ?_
                refine va_get (ci := 1) (v := .ref ht) (C := RX1) (T := TX1) (N := 5) hx hb hts hin1 hown hK hP 0 rfl rfl 1 (by decide) (hts (.fieldLink RX1 18 "UpAllRound$Reader" "tape" "[I") (List.mem_of_getElem? (i := 3) rfl)) (fun _ h9 => h9) rfl dX1_readLevel_60 ?_
                refine lv_aload_n hx hb dX1_readLevel_63 rfl (lv_at hl 0 rfl) ?_
                refine va_get (ci := 1) (v := .int (nI pv)) (C := RX1) (T := TX1) (N := 5) hx hb hts hin1 hown hK hP 0 rfl rfl 4 (by decide) (hts (.fieldLink RX1 32 "UpAllRound$Reader" "place" "I") (List.mem_of_getElem? (i := 1) rfl)) (fun _ h9 => h9) rfl dX1_readLevel_64 ?_
                refine zald (t := pv) hx hb hK hP 3 rfl (by omega) (by decide) dX1_readLevel_67 ?_
                refine zrw (htb pv (by omega)) ?_
                refine lv_istore (lv' := [(5, .int (nI (T pv))), (0, .ref h), (1, .int (nI 4)), (2, .int (nI 0)), (3, .int (nI 60)), (4, .int (nI i))]) hx hb dX1_readLevel_68 hl (by decide) rfl (fun ls hl => ?_)
                refine lv_aload_n hx hb dX1_readLevel_70 rfl (lv_at hl 1 rfl) ?_
                refine lv_dup hx hb dX1_readLevel_71 rfl ?_
                refine va_get (ci := 1) (v := .int (nI pv)) (C := RX1) (T := TX1) (N := 5) hx hb hts hin1 hown hK hP 0 rfl rfl 4 (by decide) (hts (.fieldLink RX1 32 "UpAllRound$Reader" "place" "I") (List.mem_of_getElem? (i := 1) rfl)) (fun _ h9 => h9) rfl dX1_readLevel_72 ?_
                refine lv_iconst (v := nI 1) hx hb dX1_readLevel_75 (by decide) ?_
                refine lv_iadd hx hb dX1_readLevel_76 ?_
                refine zrw (nI_add _ _) ?_
                refine va_put (ci := 1) (v := .int (nI (pv + 1))) (ty := .int) (C := RX1) (T := TX1) (N := 5) hx hb hts hin1 tyX1 tyX1_ok nmX1 hown hK hP hD hS 0 rfl rfl 4 (by decide) (hts (.fieldLink RX1 32 "UpAllRound$Reader" "place" "I") (List.mem_of_getElem? (i := 1) rfl)) (fun _ h9 => h9) rfl (by decide +kernel) rfl rfl (Nat.le_of_ble_eq_true rfl) dX1_readLevel_77 (fun H locs hP hD hS => ?_)
                have hP : va_P D vwCl [(h, .inr (1, [.ref hl9, .ref ht, .int (nI L), .ref (ad u), .int (nI (pv + 1))])), (hl9, .inr (0, [.ref hc, .int (nI ((c + ta.length))), .ref hst])), (hc, .inl (cI, 60, .inl (zapp C c ta))), (ht, .inl (cI, 60, .inl TB))] H := hP
                have hD : va_D AA [(h, .inr (1, [.ref hl9, .ref ht, .int (nI L), .ref (ad u), .int (nI (pv + 1))])), (hl9, .inr (0, [.ref hc, .int (nI ((c + ta.length))), .ref hst])), (hc, .inl (cI, 60, .inl (zapp C c ta))), (ht, .inl (cI, 60, .inl TB))] := hD
                obtain ⟨b2, q2, t2, hR2⟩ : ∃ (b0 : Bool) (q0 : Nat) (t0 : zTks), zLS T L (zQ T L u 5) 0 (pv + 1) = (b0, q0, t0) := ⟨_, _, _, rfl⟩
                have hg2 := (zLS_gd (T := T) (zQ_gd (T := T) (L := L) (u := u) 5) 0) (pv + 1) (by omega)
                rw [hR2] at hg2
                obtain ⟨hga2, hgb2, hgc2⟩ : (pv + 1) ≤ q2 ∧ q2 ≤ L ∧ (b2 = true → (pv + 1) < q2 ∧ t2.length ≤ q2 - (pv + 1) ∧ zw1 t2) := hg2
                refine lv_aload_n hx hb dX1_readLevel_80 rfl (lv_at hl 1 rfl) ?_
                refine lv_iload_n hx hb dX1_readLevel_81 rfl (lv_at hl 2 rfl) ?_
                refine lv_iload_n hx hb dX1_readLevel_82 rfl (lv_at hl 3 rfl) ?_
                refine zci (wr := []) (va_runV (As := [.int (nI 4), .int (nI 0)]) (rest := []) ⟨hx, hb, hml, hown, hts⟩ (c_X1_readPart_4_0 l D cI cJ ad bd h hl9 ht hc hst L u T TB (pv + 1) ((c + ta.length)) (zapp C c ta) b2 q2 t2 (by first | rfl | assumption | omega) (by first | rfl | assumption | omega) (by first | rfl | assumption | omega) (by first | rfl | assumption | omega) (by omega) (by omega) hR2 H.size) (cwV 2 hts gX1_readLevel_X1_readPart rfl rfl rfl (by decide +kernel) ⟨Nat.le_of_ble_eq_true rfl, Nat.le_of_ble_eq_true rfl⟩) (zpVs hG hK hN hZ hP hD hS hA [0, 1, 2, 3] rfl (by decide) 0 rfl rfl rfl) rfl rfl hl.1 rfl (lv_room (Nat.le_of_ble_eq_true rfl)) dX1_readLevel_83 ⟨Nat.zero_le _, Nat.zero_le _⟩) hP hD hS hA [0, 1, 2, 3] [] rfl rfl (by decide) (by decide) (fun r_15 w_14 H locs h_13 hP hD hS => ?_)
                obtain ⟨c9_16, C9_17, hq9_18, hx9_19, rfl, rfl⟩ := h_13
                have hP : va_P D vwCl [(h, .inr (1, [.ref hl9, .ref ht, .int (nI L), .ref (ad u), .int (nI q2)])), (hl9, .inr (0, [.ref hc, .int (nI c9_16), .ref hst])), (hc, .inl (cI, 60, .inl C9_17)), (ht, .inl (cI, 60, .inl TB))] H := hP
                have hD : va_D AA [(h, .inr (1, [.ref hl9, .ref ht, .int (nI L), .ref (ad u), .int (nI q2)])), (hl9, .inr (0, [.ref hc, .int (nI c9_16), .ref hst])), (hc, .inl (cI, 60, .inl C9_17)), (ht, .inl (cI, 60, .inl TB))] := hD
                refine lv_if_ne (tgt := 91) hx hb dX1_readLevel_86 (by decide) (fun c86_20 => ?_) (fun c86_20 => ?_)
                · have c86_20 := bI_n0.mp c86_20
                  obtain ⟨hgd2, hge2, hgf2⟩ := hgc2 c86_20
                  obtain ⟨he2, hE2⟩ := hx9_19 c86_20
                  subst he2; subst hE2
                  refine lv_aload_n hx hb dX1_readLevel_91 rfl (lv_at hl 1 rfl) ?_
                  refine va_get (ci := 1) (v := .ref hl9) (C := RX1) (T := TX1) (N := 5) hx hb hts hin1 hown hK hP 0 rfl rfl 0 (by decide) (hts (.fieldLink RX1 12 "UpAllRound$Reader" "law" "LUpAllRound$Law;") (List.mem_of_getElem? (i := 4) rfl)) (fun _ h9 => h9) rfl dX1_readLevel_92 ?_
                  refine lv_iload hx hb dX1_readLevel_95 (lv_at hl 0 rfl) ?_
                  refine lv_ineg hx hb dX1_readLevel_97 ?_
                  refine zcv (wr := [(h, .inr (1, [.ref hl9, .ref ht, .int (nI L), .ref (ad u), .int (nI q2)])), (ht, .inl (cI, 60, .inl TB))]) (va_runVN (As := [.int (-(nI (T pv)))]) (rest := []) ⟨hx, hb, hml, hown, hts⟩ (c_X0_add l D cI cJ hl9 hc hst ((c + ta.length + t2.length)) (zapp (zapp C c ta) (c + ta.length) t2) (-(nI (T pv))) (by omega) H.size) ⟨va_cnB 1 hts gX1_readLevel_X0_add_n61 rfl rfl rfl (hN (.methodLinkNest "UpAllRound$Reader" 61 yX0_add "UpAllRound") (List.mem_of_getElem? (i := 38) rfl)) (hts (.initialized RX0) (List.mem_of_getElem? (i := 13) rfl)) (by decide +kernel) ⟨Nat.le_of_ble_eq_true rfl, Nat.le_of_ble_eq_true rfl⟩, (hts (.instanceMethod yX0_add) (List.mem_of_getElem? (i := 12) rfl)), (hts (.selects RX0 yX0_add yX0_add) (List.mem_of_getElem? (i := 14) rfl))⟩ (zpV hK hN hZ hP hD hS hA [1, 2] rfl (by decide) 1 rfl rfl rfl) rfl rfl hl.1 rfl (lv_room (Nat.le_of_ble_eq_true rfl)) dX1_readLevel_98 ⟨Nat.zero_le _, Nat.zero_le _⟩) hP hD hS hA [1, 2] [0, 3] rfl rfl (by decide) (by decide) (fun w_22 H locs h_21 hP hD hS => ?_)
                  obtain rfl := h_21
                  have hP : va_P D vwCl [(h, .inr (1, [.ref hl9, .ref ht, .int (nI L), .ref (ad u), .int (nI q2)])), (ht, .inl (cI, 60, .inl TB)), (hl9, .inr (0, [.ref hc, .int (nI (((c + ta.length + t2.length)) + 1)), .ref hst])), (hc, .inl (cI, 60, .inl (upd (zapp (zapp C c ta) (c + ta.length) t2) ((c + ta.length + t2.length)) (-(nI (T pv))))))] H := hP
                  have hD : va_D AA [(h, .inr (1, [.ref hl9, .ref ht, .int (nI L), .ref (ad u), .int (nI q2)])), (ht, .inl (cI, 60, .inl TB)), (hl9, .inr (0, [.ref hc, .int (nI (((c + ta.length + t2.length)) + 1)), .ref hst])), (hc, .inl (cI, 60, .inl (upd (zapp (zapp C c ta) (c + ta.length) t2) ((c + ta.length + t2.length)) (-(nI (T pv))))))] := hD
                  refine lv_iinc (v := nI (i + 1)) (lv' := [(4, .int (nI (i + 1))), (5, .int (nI (T pv))), (0, .ref h), (1, .int (nI 4)), (2, .int (nI 0)), (3, .int (nI 60))]) hx hb dX1_readLevel_101 hl (k := 5) rfl (nI_add _ _) (by decide) rfl (fun ls hl => ?_)
                  refine lv_goto (tgt := 26) hx hb dX1_readLevel_104 (by decide) ?_
                  rw [show -(nI (T pv)) = zcode (3, T pv) from rfl, zapp1, zlen1 (t := (3, T pv))] at hP hD
                  exact ih_26   f1 q2 ((ta ++ (t2 ++ [(3, T pv)]))) ((i + 1)) (by omega) (zLt (by decide) hz ⟨by omega, by omega⟩ hR2 (by assumption)) (by omega) (by omega) (by rw [← zlen1]; omega) (by omega) ls (lv_sub hl [2, 3, 4, 5, 0] rfl) H locs (hP.sub [0, 2, 3, 1] rfl) (hD.sub [0, 2, 3, 1] (by decide) rfl) hS
                · have c86_20 := bI_0.mp c86_20
                  refine lv_iconst (v := nI 0) hx hb dX1_readLevel_89 (by decide) ?_
                  exact hret hP hD hS dX1_readLevel_90 rfl (by obtain ⟨e1, e2⟩ := zLf hz ⟨by omega, by omega⟩ hR2 (by assumption); subst e1; subst e2; exact ⟨_, _, hq9_18, fun h9 => (by cases h9), (bI_f (by decide)).symm, rfl⟩)
      exact L_26 62  61 q1 t1 0 (by omega) hz (by omega) (by omega) (by omega) (by omega) ls (lv_sub hl [2, 3, 4, 1, 0] rfl) _ _ hP hD hS
    · have c13_9 : 4 = 2 := (nI_eq (a := 4) (b := 2) (by omega) (by omega)).mp c13_9
      exact absurd c13_9 (by omega)
  · have c6_8 := bI_0.mp c6_8
    refine lv_iconst (v := nI 0) hx hb dX1_readLevel_9 (by decide) ?_
    exact hret hP hD hS dX1_readLevel_10 rfl (by obtain ⟨e1, e2⟩ := zLv_ff hR hR1 (by assumption); subst e1; subst e2; exact ⟨_, _, hq9_6, fun h9 => (by cases h9), (bI_f (by decide)).symm, rfl⟩)
set_option maxHeartbeats 4000000 in
set_option maxRecDepth 100000 in
theorem c_X1_readPart_3_0 (l : Launch) (D : va_G) (cI cJ : ClassId) (ad : Nat → Nat) (bd : Nat → Nat) (h : Nat) (hl9 : Nat) (ht : Nat) (hc : Nat) (hst : Nat) (L : Nat) (u : Nat) (T : Nat → Nat) (TB : Nat → Int32) (p : Nat) (c : Nat) (C : Nat → Int32) (b : Bool) (q : Nat) (tl : zTks) (hL : L ≤ 60) (hu1 : u ≤ 1) (hT : ∀ i, i < L → T i < 256) (htb : ∀ i, i < L → TB i = nI (T i)) (hp : p ≤ L) (hcp : c ≤ p) (hR : zLS T L (zQ T L u 5) 1 p = (b, q, tl)) : zTi ad bd l yX1_readPart wsX1_readPart ({ frames := 62, cells := 0, slots := 0, locals := 1451 } : Room) D [(cI, .int), (cJ, .array .int)] [.ref h, .int (nI 3), .int (nI 0)] [(h, .inr (1, [.ref hl9, .ref ht, .int (nI L), .ref (ad u), .int (nI p)])), (hl9, .inr (0, [.ref hc, .int (nI c), .ref hst])), (hc, .inl (cI, 60, .inl C)), (ht, .inl (cI, 60, .inl TB))] (fun r w => ∃ (c9 : Nat) (C9 : Nat → Int32), c9 ≤ q ∧ (b = true → c9 = c + tl.length ∧ C9 = zapp C c tl) ∧ r = bI (b = true) ∧ w = [(h, .inr (1, [.ref hl9, .ref ht, .int (nI L), .ref (ad u), .int (nI q)])), (hl9, .inr (0, [.ref hc, .int (nI c9), .ref hst])), (hc, .inl (cI, 60, .inl C9)), (ht, .inl (cI, 60, .inl TB))]) := by
  refine zTi.start (cc := cX1_readPart) (maxL := 3) (rt := .boolean) (by first | decide | decide +kernel) rfl (Nat.le_of_ble_eq_true rfl) ?_
  intro pg ev s mt args below meth cd ls AA QQ ⟨hx, hb, hml, hr, hlocks, hown, hts, hK, hN, hZ, hP, hD, hA, hS, hl⟩ hG hret
  have hown : s.vm.findClass RX1 = some mt.cls := hown
  have hl : lv_has ls 3 [(0, .ref h), (1, .int (nI 3)), (2, .int (nI 0))] := hl
  have hin0 : ∀ w ∈ wsX00, w ∈ wsX1_readPart := fun w h => List.mem_cons_of_mem _ (List.mem_append_right _ (h))
  have hin1 : ∀ w ∈ wsX10, w ∈ wsX1_readPart := fun w h => List.mem_cons_of_mem _ (List.mem_append_left _ (List.mem_append_right _ (h)))
  refine lv_iload_n hx hb dX1_readPart_0 rfl (lv_at hl 1 rfl) ?_
  refine lv_iconst (v := nI 1) hx hb dX1_readPart_1 (by decide) ?_
  refine lv_iadd hx hb dX1_readPart_2 ?_
  refine zrw (nI_add _ _) ?_
  refine lv_iconst (v := nI 5) hx hb dX1_readPart_3 (by decide) ?_
  refine lv_icmp_ge (tgt := 18) hx hb dX1_readPart_4 (by decide) (fun c4_1 => ?_) (fun c4_1 => ?_)
  · have c4_1 : 5 ≤ 4 := (nI_leI (a := 5) (b := 4) (by omega) (by omega)).mp c4_1
    exact absurd c4_1 (by omega)
  · have c4_1 : ¬ (5 ≤ 4) := fun h9 => c4_1 ((nI_leI (a := 5) (b := 4) (by omega) (by omega)).mpr h9)
    refine lv_aload_n hx hb dX1_readPart_7 rfl (lv_at hl 0 rfl) ?_
    refine lv_iload_n hx hb dX1_readPart_8 rfl (lv_at hl 1 rfl) ?_
    refine lv_iconst (v := nI 1) hx hb dX1_readPart_9 (by decide) ?_
    refine lv_iadd hx hb dX1_readPart_10 ?_
    refine zrw (nI_add _ _) ?_
    refine lv_iload_n hx hb dX1_readPart_11 rfl (lv_at hl 2 rfl) ?_
    refine zci (wr := []) (va_runV (As := [.int (nI 4), .int (nI 0)]) (rest := []) ⟨hx, hb, hml, hown, hts⟩ (c_X1_readLevel_4_0 l D cI cJ ad bd h hl9 ht hc hst L u T TB p c C b q tl (by first | rfl | assumption | omega) (by first | rfl | assumption | omega) (by first | rfl | assumption | omega) (by first | rfl | assumption | omega) (by first | rfl | assumption | omega) (by first | rfl | assumption | omega) hR s.heap.size) (cwV 2 hts gX1_readPart_X1_readLevel rfl rfl rfl (by decide +kernel) ⟨Nat.le_of_ble_eq_true rfl, Nat.le_of_ble_eq_true rfl⟩) (zpVs hG hK hN hZ hP hD hS hA [0, 1, 2, 3] rfl (by decide) 0 rfl rfl rfl) rfl rfl hl.1 rfl (lv_room (Nat.le_of_ble_eq_true rfl)) dX1_readPart_12 ⟨Nat.zero_le _, Nat.zero_le _⟩) hP hD hS hA [0, 1, 2, 3] [] rfl rfl (by decide) (by decide) (fun r_4 w_3 H locs h_2 hP hD hS => ?_)
    obtain ⟨c9_5, C9_6, hq9_7, hx9_8, rfl, rfl⟩ := h_2
    have hP : va_P D vwCl [(h, .inr (1, [.ref hl9, .ref ht, .int (nI L), .ref (ad u), .int (nI q)])), (hl9, .inr (0, [.ref hc, .int (nI c9_5), .ref hst])), (hc, .inl (cI, 60, .inl C9_6)), (ht, .inl (cI, 60, .inl TB))] H := hP
    have hD : va_D AA [(h, .inr (1, [.ref hl9, .ref ht, .int (nI L), .ref (ad u), .int (nI q)])), (hl9, .inr (0, [.ref hc, .int (nI c9_5), .ref hst])), (hc, .inl (cI, 60, .inl C9_6)), (ht, .inl (cI, 60, .inl TB))] := hD
    refine lv_goto (tgt := 23) hx hb dX1_readPart_15 (by decide) ?_
    exact hret hP hD hS dX1_readPart_23 nar_bI (by exact ⟨_, _, hq9_7, hx9_8, rfl, rfl⟩)
set_option maxHeartbeats 4000000 in
set_option maxRecDepth 100000 in
theorem c_X1_readLevel_3_0 (l : Launch) (D : va_G) (cI cJ : ClassId) (ad : Nat → Nat) (bd : Nat → Nat) (h : Nat) (hl9 : Nat) (ht : Nat) (hc : Nat) (hst : Nat) (L : Nat) (u : Nat) (T : Nat → Nat) (TB : Nat → Int32) (p : Nat) (c : Nat) (C : Nat → Int32) (b : Bool) (q : Nat) (tl : zTks) (hL : L ≤ 60) (hu1 : u ≤ 1) (hT : ∀ i, i < L → T i < 256) (htb : ∀ i, i < L → TB i = nI (T i)) (hp : p ≤ L) (hcp : c ≤ p) (hR : zLS T L (zQ T L u 5) 2 p = (b, q, tl)) : zTi ad bd l yX1_readLevel wsX1_readLevel ({ frames := 63, cells := 0, slots := 0, locals := 1473 } : Room) D [(cI, .int), (cJ, .array .int)] [.ref h, .int (nI 3), .int (nI 0)] [(h, .inr (1, [.ref hl9, .ref ht, .int (nI L), .ref (ad u), .int (nI p)])), (hl9, .inr (0, [.ref hc, .int (nI c), .ref hst])), (hc, .inl (cI, 60, .inl C)), (ht, .inl (cI, 60, .inl TB))] (fun r w => ∃ (c9 : Nat) (C9 : Nat → Int32), c9 ≤ q ∧ (b = true → c9 = c + tl.length ∧ C9 = zapp C c tl) ∧ r = bI (b = true) ∧ w = [(h, .inr (1, [.ref hl9, .ref ht, .int (nI L), .ref (ad u), .int (nI q)])), (hl9, .inr (0, [.ref hc, .int (nI c9), .ref hst])), (hc, .inl (cI, 60, .inl C9)), (ht, .inl (cI, 60, .inl TB))]) := by
  refine zTi.start (cc := cX1_readLevel) (maxL := 6) (rt := .boolean) (by first | decide | decide +kernel) rfl (Nat.le_of_ble_eq_true rfl) ?_
  intro pg ev s mt args below meth cd ls AA QQ ⟨hx, hb, hml, hr, hlocks, hown, hts, hK, hN, hZ, hP, hD, hA, hS, hl⟩ hG hret
  have hown : s.vm.findClass RX1 = some mt.cls := hown
  have hl : lv_has ls 6 [(0, .ref h), (1, .int (nI 3)), (2, .int (nI 0))] := hl
  have hin0 : ∀ w ∈ wsX00, w ∈ wsX1_readLevel := fun w h => List.mem_cons_of_mem _ (List.mem_append_right _ (h))
  have hin1 : ∀ w ∈ wsX10, w ∈ wsX1_readLevel := fun w h => List.mem_cons_of_mem _ (List.mem_append_left _ (List.mem_append_right _ (h)))
  have hR : zLv T L 3 (zLS T L (zQ T L u 5) 1) p = (b, q, tl) := hR
  obtain ⟨b1, q1, t1, hR1⟩ : ∃ (b0 : Bool) (q0 : Nat) (t0 : zTks), zLS T L (zQ T L u 5) 1 p = (b0, q0, t0) := ⟨_, _, _, rfl⟩
  have hg1 := (zLS_gd (T := T) (zQ_gd (T := T) (L := L) (u := u) 5) 1) p (by omega)
  rw [hR1] at hg1
  obtain ⟨hga1, hgb1, hgc1⟩ : p ≤ q1 ∧ q1 ≤ L ∧ (b1 = true → p < q1 ∧ t1.length ≤ q1 - p ∧ zw1 t1) := hg1
  refine lv_aload_n hx hb dX1_readLevel_0 rfl (lv_at hl 0 rfl) ?_
  refine lv_iload_n hx hb dX1_readLevel_1 rfl (lv_at hl 1 rfl) ?_
  refine lv_iload_n hx hb dX1_readLevel_2 rfl (lv_at hl 2 rfl) ?_
  refine zci (wr := []) (va_runV (As := [.int (nI 3), .int (nI 0)]) (rest := []) ⟨hx, hb, hml, hown, hts⟩ (c_X1_readPart_3_0 l D cI cJ ad bd h hl9 ht hc hst L u T TB p c C b1 q1 t1 (by first | rfl | assumption | omega) (by first | rfl | assumption | omega) (by first | rfl | assumption | omega) (by first | rfl | assumption | omega) (by first | rfl | assumption | omega) (by first | rfl | assumption | omega) hR1 s.heap.size) (cwV 2 hts gX1_readLevel_X1_readPart rfl rfl rfl (by decide +kernel) ⟨Nat.le_of_ble_eq_true rfl, Nat.le_of_ble_eq_true rfl⟩) (zpVs hG hK hN hZ hP hD hS hA [0, 1, 2, 3] rfl (by decide) 0 rfl rfl rfl) rfl rfl hl.1 rfl (lv_room (Nat.le_of_ble_eq_true rfl)) dX1_readLevel_3 ⟨Nat.zero_le _, Nat.zero_le _⟩) hP hD hS hA [0, 1, 2, 3] [] rfl rfl (by decide) (by decide) (fun r_3 w_2 H locs h_1 hP hD hS => ?_)
  obtain ⟨c9_4, C9_5, hq9_6, hx9_7, rfl, rfl⟩ := h_1
  have hP : va_P D vwCl [(h, .inr (1, [.ref hl9, .ref ht, .int (nI L), .ref (ad u), .int (nI q1)])), (hl9, .inr (0, [.ref hc, .int (nI c9_4), .ref hst])), (hc, .inl (cI, 60, .inl C9_5)), (ht, .inl (cI, 60, .inl TB))] H := hP
  have hD : va_D AA [(h, .inr (1, [.ref hl9, .ref ht, .int (nI L), .ref (ad u), .int (nI q1)])), (hl9, .inr (0, [.ref hc, .int (nI c9_4), .ref hst])), (hc, .inl (cI, 60, .inl C9_5)), (ht, .inl (cI, 60, .inl TB))] := hD
  refine lv_if_ne (tgt := 11) hx hb dX1_readLevel_6 (by decide) (fun c6_8 => ?_) (fun c6_8 => ?_)
  · have c6_8 := bI_n0.mp c6_8
    obtain ⟨hgd1, hge1, hgf1⟩ := hgc1 c6_8
    obtain ⟨he1, hE1⟩ := hx9_7 c6_8
    subst he1; subst hE1
    have hz := zLv_tt hR hR1 c6_8
    refine lv_iload_n hx hb dX1_readLevel_11 rfl (lv_at hl 1 rfl) ?_
    refine lv_iconst (v := nI 2) hx hb dX1_readLevel_12 (by decide) ?_
    refine lv_icmp_ne (tgt := 20) hx hb dX1_readLevel_13 (by decide) (fun c13_9 => ?_) (fun c13_9 => ?_)
    · have c13_9 : ¬ (3 = 2) := fun h9 => c13_9 ((nI_eq (a := 3) (b := 2) (by omega) (by omega)).mpr h9)
      refine lv_bipush (v := nI 60) hx hb dX1_readLevel_20 (by decide) ?_
      refine lv_istore_n (lv' := [(3, .int (nI 60)), (0, .ref h), (1, .int (nI 3)), (2, .int (nI 0))]) hx hb dX1_readLevel_22 rfl hl (by decide) rfl (fun ls hl => ?_)
      refine lv_iconst (v := nI 0) hx hb dX1_readLevel_23 (by decide) ?_
      refine lv_istore (lv' := [(4, .int (nI 0)), (3, .int (nI 60)), (0, .ref h), (1, .int (nI 3)), (2, .int (nI 0))]) hx hb dX1_readLevel_24 hl (by decide) rfl (fun ls hl => ?_)
      have L_26 : ∀ (fu : Nat) (f : Nat) (pv : Nat) (ta : zTks) (i : Nat) (hn : f < fu) (hz : zct ta (zLp T L 3 (zLS T L (zQ T L u 5) 1) f pv) = (b, q, tl)) (hf : L - pv < f) (hpv : pv ≤ L) (hca : c + ta.length ≤ pv) (hi1 : i + 1 ≤ pv), ∀ (ls : Array Slot), lv_has ls 6 [(0, .ref h), (1, .int (nI 3)), (2, .int (nI 0)), (3, .int (nI 60)), (4, .int (nI i))] → ∀ (H : Heap) (locs : List Loc), va_P D vwCl [(h, .inr (1, [.ref hl9, .ref ht, .int (nI L), .ref (ad u), .int (nI pv)])), (hl9, .inr (0, [.ref hc, .int (nI ((c + ta.length))), .ref hst])), (hc, .inl (cI, 60, .inl (zapp C c ta))), (ht, .inl (cI, 60, .inl TB))] H → va_D AA [(h, .inr (1, [.ref hl9, .ref ht, .int (nI L), .ref (ad u), .int (nI pv)])), (hl9, .inr (0, [.ref hc, .int (nI ((c + ta.length))), .ref hst])), (hc, .inl (cI, 60, .inl (zapp C c ta))), (ht, .inl (cI, 60, .inl TB))] → va_S AA s.heap H locs → W pg l ev ({ frames := 63, cells := 0, slots := 0, locals := 1473 } : Room) s mt args below meth cd H locs 0 0 QQ (F0 mt 26 ls []) := by
        intro fu
        induction fu with
        | zero =>
          intro  f pv ta i  hn
          exact absurd hn (by omega)
        | succ fu ih_26 =>
          intro  f pv ta i  hn hz hf hpv hca hi1 ls hl H locs hP hD hS
          obtain ⟨f1, rfl⟩ : ∃ f1, f = f1 + 1 := ⟨f - 1, by omega⟩
          refine lv_iload hx hb dX1_readLevel_26 (lv_at hl 4 rfl) ?_
          refine lv_iload_n hx hb dX1_readLevel_28 rfl (lv_at hl 3 rfl) ?_
          refine lv_icmp_ge (tgt := 107) hx hb dX1_readLevel_29 (by decide) (fun c29_10 => ?_) (fun c29_10 => ?_)
          · have c29_10 : 60 ≤ i := (nI_leI (a := 60) (b := i) (by omega) (by omega)).mp c29_10
            exact absurd c29_10 (by omega)
          · have c29_10 : ¬ (60 ≤ i) := fun h9 => c29_10 ((nI_leI (a := 60) (b := i) (by omega) (by omega)).mpr h9)
            refine lv_aload_n hx hb dX1_readLevel_32 rfl (lv_at hl 0 rfl) ?_
            refine va_get (ci := 1) (v := .int (nI pv)) (C := RX1) (T := TX1) (N := 5) hx hb hts hin1 hown hK hP 0 rfl rfl 4 (by decide) (hts (.fieldLink RX1 32 "UpAllRound$Reader" "place" "I") (List.mem_of_getElem? (i := 1) rfl)) (fun _ h9 => h9) rfl dX1_readLevel_33 ?_
            refine lv_aload_n hx hb dX1_readLevel_36 rfl (lv_at hl 0 rfl) ?_
            refine va_get (ci := 1) (v := .int (nI L)) (C := RX1) (T := TX1) (N := 5) hx hb hts hin1 hown hK hP 0 rfl rfl 2 (by decide) (hts (.fieldLink RX1 22 "UpAllRound$Reader" "length" "I") (List.mem_of_getElem? (i := 2) rfl)) (fun _ h9 => h9) rfl dX1_readLevel_37 ?_
            refine lv_icmp_ge (tgt := 107) hx hb dX1_readLevel_40 (by decide) (fun c40_11 => ?_) (fun c40_11 => ?_)
            · have c40_11 : L ≤ pv := (nI_leI (a := L) (b := pv) (by omega) (by omega)).mp c40_11
              refine lv_iconst (v := nI 1) hx hb dX1_readLevel_107 (by decide) ?_
              exact hret hP hD hS dX1_readLevel_108 rfl (by obtain ⟨e1, e2, e3⟩ := zLe (f := f1) hz (by omega); subst e1; subst e2; subst e3; exact ⟨_, _, by omega, fun _ => ⟨rfl, rfl⟩, (bI_t rfl).symm, rfl⟩)
            · have c40_11 : ¬ (L ≤ pv) := fun h9 => c40_11 ((nI_leI (a := L) (b := pv) (by omega) (by omega)).mpr h9)
              refine lv_aload_n hx hb dX1_readLevel_43 rfl (lv_at hl 0 rfl) ?_
              refine va_get (ci := 1) (v := .ref ht) (C := RX1) (T := TX1) (N := 5) hx hb hts hin1 hown hK hP 0 rfl rfl 1 (by decide) (hts (.fieldLink RX1 18 "UpAllRound$Reader" "tape" "[I") (List.mem_of_getElem? (i := 3) rfl)) (fun _ h9 => h9) rfl dX1_readLevel_44 ?_
              refine lv_aload_n hx hb dX1_readLevel_47 rfl (lv_at hl 0 rfl) ?_
              refine va_get (ci := 1) (v := .int (nI pv)) (C := RX1) (T := TX1) (N := 5) hx hb hts hin1 hown hK hP 0 rfl rfl 4 (by decide) (hts (.fieldLink RX1 32 "UpAllRound$Reader" "place" "I") (List.mem_of_getElem? (i := 1) rfl)) (fun _ h9 => h9) rfl dX1_readLevel_48 ?_
              refine zald (t := pv) hx hb hK hP 3 rfl (by omega) (by decide) dX1_readLevel_51 ?_
              refine zrw (htb pv (by omega)) ?_
              refine zcsE (va_runS (As := [.int (nI (T pv))]) (rest := []) ⟨hx, hb, hml, hown, hts⟩ (c_X1_levelOf l D cI cJ (T pv) (hT pv (by omega)) H.size) (va_cwS 1 hts gX1_readLevel_X1_levelOf rfl rfl rfl (by decide +kernel) ⟨Nat.le_of_ble_eq_true rfl, Nat.le_of_ble_eq_true rfl⟩) (zpS hK hN hZ hP hD hS hA [] rfl (by decide)) rfl rfl hl.1 rfl (lv_room (Nat.le_of_ble_eq_true rfl)) dX1_readLevel_52 ⟨Nat.zero_le _, Nat.zero_le _⟩) ?_
              refine lv_iload_n hx hb dX1_readLevel_55 rfl (lv_at hl 1 rfl) ?_
              refine lv_icmp_ne (tgt := 107) hx hb dX1_readLevel_56 (by decide) (fun c56_12 => ?_) (fun c56_12 => ?_)
              · have c56_12 : ¬ (((zlv (T pv))) = 3) := fun h9 => c56_12 ((nI_eq (a := (zlv (T pv))) (b := 3) (by have h91 := zlv_le (T pv); omega) (by have h91 := zlv_le (T pv); omega)).mpr h9)
                refine lv_iconst (v := nI 1) hx hb dX1_readLevel_107 (by decide) ?_
                exact hret hP hD hS dX1_readLevel_108 rfl (by obtain ⟨e1, e2, e3⟩ := zLe (f := f1) hz (by omega); subst e1; subst e2; subst e3; exact ⟨_, _, by omega, fun _ => ⟨rfl, rfl⟩, (bI_t rfl).symm, rfl⟩)
              · have c56_12 : ((zlv (T pv))) = 3 := (nI_eq (a := (zlv (T pv))) (b := 3) (by have h91 := zlv_le (T pv); omega) (by have h91 := zlv_le (T pv); omega)).mp c56_12
                refine lv_aload_n hx hb dX1_readLevel_59 rfl (lv_at hl 0 rfl) ?_
                refine va_get (ci := 1) (v := .ref ht) (C := RX1) (T := TX1) (N := 5) hx hb hts hin1 hown hK hP 0 rfl rfl 1 (by decide) (hts (.fieldLink RX1 18 "UpAllRound$Reader" "tape" "[I") (List.mem_of_getElem? (i := 3) rfl)) (fun _ h9 => h9) rfl dX1_readLevel_60 ?_
                refine lv_aload_n hx hb dX1_readLevel_63 rfl (lv_at hl 0 rfl) ?_
                refine va_get (ci := 1) (v := .int (nI pv)) (C := RX1) (T := TX1) (N := 5) hx hb hts hin1 hown hK hP 0 rfl rfl 4 (by decide) (hts (.fieldLink RX1 32 "UpAllRound$Reader" "place" "I") (List.mem_of_getElem? (i := 1) rfl)) (fun _ h9 => h9) rfl dX1_readLevel_64 ?_
                refine zald (t := pv) hx hb hK hP 3 rfl (by omega) (by decide) dX1_readLevel_67 ?_
                refine zrw (htb pv (by omega)) ?_
                refine lv_istore (lv' := [(5, .int (nI (T pv))), (0, .ref h), (1, .int (nI 3)), (2, .int (nI 0)), (3, .int (nI 60)), (4, .int (nI i))]) hx hb dX1_readLevel_68 hl (by decide) rfl (fun ls hl => ?_)
                refine lv_aload_n hx hb dX1_readLevel_70 rfl (lv_at hl 1 rfl) ?_
                refine lv_dup hx hb dX1_readLevel_71 rfl ?_
                refine va_get (ci := 1) (v := .int (nI pv)) (C := RX1) (T := TX1) (N := 5) hx hb hts hin1 hown hK hP 0 rfl rfl 4 (by decide) (hts (.fieldLink RX1 32 "UpAllRound$Reader" "place" "I") (List.mem_of_getElem? (i := 1) rfl)) (fun _ h9 => h9) rfl dX1_readLevel_72 ?_
                refine lv_iconst (v := nI 1) hx hb dX1_readLevel_75 (by decide) ?_
                refine lv_iadd hx hb dX1_readLevel_76 ?_
                refine zrw (nI_add _ _) ?_
                refine va_put (ci := 1) (v := .int (nI (pv + 1))) (ty := .int) (C := RX1) (T := TX1) (N := 5) hx hb hts hin1 tyX1 tyX1_ok nmX1 hown hK hP hD hS 0 rfl rfl 4 (by decide) (hts (.fieldLink RX1 32 "UpAllRound$Reader" "place" "I") (List.mem_of_getElem? (i := 1) rfl)) (fun _ h9 => h9) rfl (by decide +kernel) rfl rfl (Nat.le_of_ble_eq_true rfl) dX1_readLevel_77 (fun H locs hP hD hS => ?_)
                have hP : va_P D vwCl [(h, .inr (1, [.ref hl9, .ref ht, .int (nI L), .ref (ad u), .int (nI (pv + 1))])), (hl9, .inr (0, [.ref hc, .int (nI ((c + ta.length))), .ref hst])), (hc, .inl (cI, 60, .inl (zapp C c ta))), (ht, .inl (cI, 60, .inl TB))] H := hP
                have hD : va_D AA [(h, .inr (1, [.ref hl9, .ref ht, .int (nI L), .ref (ad u), .int (nI (pv + 1))])), (hl9, .inr (0, [.ref hc, .int (nI ((c + ta.length))), .ref hst])), (hc, .inl (cI, 60, .inl (zapp C c ta))), (ht, .inl (cI, 60, .inl TB))] := hD
                obtain ⟨b2, q2, t2, hR2⟩ : ∃ (b0 : Bool) (q0 : Nat) (t0 : zTks), zLS T L (zQ T L u 5) 1 (pv + 1) = (b0, q0, t0) := ⟨_, _, _, rfl⟩
                have hg2 := (zLS_gd (T := T) (zQ_gd (T := T) (L := L) (u := u) 5) 1) (pv + 1) (by omega)
                rw [hR2] at hg2
                obtain ⟨hga2, hgb2, hgc2⟩ : (pv + 1) ≤ q2 ∧ q2 ≤ L ∧ (b2 = true → (pv + 1) < q2 ∧ t2.length ≤ q2 - (pv + 1) ∧ zw1 t2) := hg2
                refine lv_aload_n hx hb dX1_readLevel_80 rfl (lv_at hl 1 rfl) ?_
                refine lv_iload_n hx hb dX1_readLevel_81 rfl (lv_at hl 2 rfl) ?_
                refine lv_iload_n hx hb dX1_readLevel_82 rfl (lv_at hl 3 rfl) ?_
                refine zci (wr := []) (va_runV (As := [.int (nI 3), .int (nI 0)]) (rest := []) ⟨hx, hb, hml, hown, hts⟩ (c_X1_readPart_3_0 l D cI cJ ad bd h hl9 ht hc hst L u T TB (pv + 1) ((c + ta.length)) (zapp C c ta) b2 q2 t2 (by first | rfl | assumption | omega) (by first | rfl | assumption | omega) (by first | rfl | assumption | omega) (by first | rfl | assumption | omega) (by omega) (by omega) hR2 H.size) (cwV 2 hts gX1_readLevel_X1_readPart rfl rfl rfl (by decide +kernel) ⟨Nat.le_of_ble_eq_true rfl, Nat.le_of_ble_eq_true rfl⟩) (zpVs hG hK hN hZ hP hD hS hA [0, 1, 2, 3] rfl (by decide) 0 rfl rfl rfl) rfl rfl hl.1 rfl (lv_room (Nat.le_of_ble_eq_true rfl)) dX1_readLevel_83 ⟨Nat.zero_le _, Nat.zero_le _⟩) hP hD hS hA [0, 1, 2, 3] [] rfl rfl (by decide) (by decide) (fun r_15 w_14 H locs h_13 hP hD hS => ?_)
                obtain ⟨c9_16, C9_17, hq9_18, hx9_19, rfl, rfl⟩ := h_13
                have hP : va_P D vwCl [(h, .inr (1, [.ref hl9, .ref ht, .int (nI L), .ref (ad u), .int (nI q2)])), (hl9, .inr (0, [.ref hc, .int (nI c9_16), .ref hst])), (hc, .inl (cI, 60, .inl C9_17)), (ht, .inl (cI, 60, .inl TB))] H := hP
                have hD : va_D AA [(h, .inr (1, [.ref hl9, .ref ht, .int (nI L), .ref (ad u), .int (nI q2)])), (hl9, .inr (0, [.ref hc, .int (nI c9_16), .ref hst])), (hc, .inl (cI, 60, .inl C9_17)), (ht, .inl (cI, 60, .inl TB))] := hD
                refine lv_if_ne (tgt := 91) hx hb dX1_readLevel_86 (by decide) (fun c86_20 => ?_) (fun c86_20 => ?_)
                · have c86_20 := bI_n0.mp c86_20
                  obtain ⟨hgd2, hge2, hgf2⟩ := hgc2 c86_20
                  obtain ⟨he2, hE2⟩ := hx9_19 c86_20
                  subst he2; subst hE2
                  refine lv_aload_n hx hb dX1_readLevel_91 rfl (lv_at hl 1 rfl) ?_
                  refine va_get (ci := 1) (v := .ref hl9) (C := RX1) (T := TX1) (N := 5) hx hb hts hin1 hown hK hP 0 rfl rfl 0 (by decide) (hts (.fieldLink RX1 12 "UpAllRound$Reader" "law" "LUpAllRound$Law;") (List.mem_of_getElem? (i := 4) rfl)) (fun _ h9 => h9) rfl dX1_readLevel_92 ?_
                  refine lv_iload hx hb dX1_readLevel_95 (lv_at hl 0 rfl) ?_
                  refine lv_ineg hx hb dX1_readLevel_97 ?_
                  refine zcv (wr := [(h, .inr (1, [.ref hl9, .ref ht, .int (nI L), .ref (ad u), .int (nI q2)])), (ht, .inl (cI, 60, .inl TB))]) (va_runVN (As := [.int (-(nI (T pv)))]) (rest := []) ⟨hx, hb, hml, hown, hts⟩ (c_X0_add l D cI cJ hl9 hc hst ((c + ta.length + t2.length)) (zapp (zapp C c ta) (c + ta.length) t2) (-(nI (T pv))) (by omega) H.size) ⟨va_cnB 1 hts gX1_readLevel_X0_add_n61 rfl rfl rfl (hN (.methodLinkNest "UpAllRound$Reader" 61 yX0_add "UpAllRound") (List.mem_of_getElem? (i := 38) rfl)) (hts (.initialized RX0) (List.mem_of_getElem? (i := 13) rfl)) (by decide +kernel) ⟨Nat.le_of_ble_eq_true rfl, Nat.le_of_ble_eq_true rfl⟩, (hts (.instanceMethod yX0_add) (List.mem_of_getElem? (i := 12) rfl)), (hts (.selects RX0 yX0_add yX0_add) (List.mem_of_getElem? (i := 14) rfl))⟩ (zpV hK hN hZ hP hD hS hA [1, 2] rfl (by decide) 1 rfl rfl rfl) rfl rfl hl.1 rfl (lv_room (Nat.le_of_ble_eq_true rfl)) dX1_readLevel_98 ⟨Nat.zero_le _, Nat.zero_le _⟩) hP hD hS hA [1, 2] [0, 3] rfl rfl (by decide) (by decide) (fun w_22 H locs h_21 hP hD hS => ?_)
                  obtain rfl := h_21
                  have hP : va_P D vwCl [(h, .inr (1, [.ref hl9, .ref ht, .int (nI L), .ref (ad u), .int (nI q2)])), (ht, .inl (cI, 60, .inl TB)), (hl9, .inr (0, [.ref hc, .int (nI (((c + ta.length + t2.length)) + 1)), .ref hst])), (hc, .inl (cI, 60, .inl (upd (zapp (zapp C c ta) (c + ta.length) t2) ((c + ta.length + t2.length)) (-(nI (T pv))))))] H := hP
                  have hD : va_D AA [(h, .inr (1, [.ref hl9, .ref ht, .int (nI L), .ref (ad u), .int (nI q2)])), (ht, .inl (cI, 60, .inl TB)), (hl9, .inr (0, [.ref hc, .int (nI (((c + ta.length + t2.length)) + 1)), .ref hst])), (hc, .inl (cI, 60, .inl (upd (zapp (zapp C c ta) (c + ta.length) t2) ((c + ta.length + t2.length)) (-(nI (T pv))))))] := hD
                  refine lv_iinc (v := nI (i + 1)) (lv' := [(4, .int (nI (i + 1))), (5, .int (nI (T pv))), (0, .ref h), (1, .int (nI 3)), (2, .int (nI 0)), (3, .int (nI 60))]) hx hb dX1_readLevel_101 hl (k := 5) rfl (nI_add _ _) (by decide) rfl (fun ls hl => ?_)
                  refine lv_goto (tgt := 26) hx hb dX1_readLevel_104 (by decide) ?_
                  rw [show -(nI (T pv)) = zcode (3, T pv) from rfl, zapp1, zlen1 (t := (3, T pv))] at hP hD
                  exact ih_26   f1 q2 ((ta ++ (t2 ++ [(3, T pv)]))) ((i + 1)) (by omega) (zLt (by decide) hz ⟨by omega, by omega⟩ hR2 (by assumption)) (by omega) (by omega) (by rw [← zlen1]; omega) (by omega) ls (lv_sub hl [2, 3, 4, 5, 0] rfl) H locs (hP.sub [0, 2, 3, 1] rfl) (hD.sub [0, 2, 3, 1] (by decide) rfl) hS
                · have c86_20 := bI_0.mp c86_20
                  refine lv_iconst (v := nI 0) hx hb dX1_readLevel_89 (by decide) ?_
                  exact hret hP hD hS dX1_readLevel_90 rfl (by obtain ⟨e1, e2⟩ := zLf hz ⟨by omega, by omega⟩ hR2 (by assumption); subst e1; subst e2; exact ⟨_, _, hq9_18, fun h9 => (by cases h9), (bI_f (by decide)).symm, rfl⟩)
      exact L_26 62  61 q1 t1 0 (by omega) hz (by omega) (by omega) (by omega) (by omega) ls (lv_sub hl [2, 3, 4, 1, 0] rfl) _ _ hP hD hS
    · have c13_9 : 3 = 2 := (nI_eq (a := 3) (b := 2) (by omega) (by omega)).mp c13_9
      exact absurd c13_9 (by omega)
  · have c6_8 := bI_0.mp c6_8
    refine lv_iconst (v := nI 0) hx hb dX1_readLevel_9 (by decide) ?_
    exact hret hP hD hS dX1_readLevel_10 rfl (by obtain ⟨e1, e2⟩ := zLv_ff hR hR1 (by assumption); subst e1; subst e2; exact ⟨_, _, hq9_6, fun h9 => (by cases h9), (bI_f (by decide)).symm, rfl⟩)
set_option maxHeartbeats 4000000 in
set_option maxRecDepth 100000 in
theorem c_X1_readPart_2_0 (l : Launch) (D : va_G) (cI cJ : ClassId) (ad : Nat → Nat) (bd : Nat → Nat) (h : Nat) (hl9 : Nat) (ht : Nat) (hc : Nat) (hst : Nat) (L : Nat) (u : Nat) (T : Nat → Nat) (TB : Nat → Int32) (p : Nat) (c : Nat) (C : Nat → Int32) (b : Bool) (q : Nat) (tl : zTks) (hL : L ≤ 60) (hu1 : u ≤ 1) (hT : ∀ i, i < L → T i < 256) (htb : ∀ i, i < L → TB i = nI (T i)) (hp : p ≤ L) (hcp : c ≤ p) (hR : zLS T L (zQ T L u 5) 2 p = (b, q, tl)) : zTi ad bd l yX1_readPart wsX1_readPart ({ frames := 64, cells := 0, slots := 0, locals := 1498 } : Room) D [(cI, .int), (cJ, .array .int)] [.ref h, .int (nI 2), .int (nI 0)] [(h, .inr (1, [.ref hl9, .ref ht, .int (nI L), .ref (ad u), .int (nI p)])), (hl9, .inr (0, [.ref hc, .int (nI c), .ref hst])), (hc, .inl (cI, 60, .inl C)), (ht, .inl (cI, 60, .inl TB))] (fun r w => ∃ (c9 : Nat) (C9 : Nat → Int32), c9 ≤ q ∧ (b = true → c9 = c + tl.length ∧ C9 = zapp C c tl) ∧ r = bI (b = true) ∧ w = [(h, .inr (1, [.ref hl9, .ref ht, .int (nI L), .ref (ad u), .int (nI q)])), (hl9, .inr (0, [.ref hc, .int (nI c9), .ref hst])), (hc, .inl (cI, 60, .inl C9)), (ht, .inl (cI, 60, .inl TB))]) := by
  refine zTi.start (cc := cX1_readPart) (maxL := 3) (rt := .boolean) (by first | decide | decide +kernel) rfl (Nat.le_of_ble_eq_true rfl) ?_
  intro pg ev s mt args below meth cd ls AA QQ ⟨hx, hb, hml, hr, hlocks, hown, hts, hK, hN, hZ, hP, hD, hA, hS, hl⟩ hG hret
  have hown : s.vm.findClass RX1 = some mt.cls := hown
  have hl : lv_has ls 3 [(0, .ref h), (1, .int (nI 2)), (2, .int (nI 0))] := hl
  have hin0 : ∀ w ∈ wsX00, w ∈ wsX1_readPart := fun w h => List.mem_cons_of_mem _ (List.mem_append_right _ (h))
  have hin1 : ∀ w ∈ wsX10, w ∈ wsX1_readPart := fun w h => List.mem_cons_of_mem _ (List.mem_append_left _ (List.mem_append_right _ (h)))
  refine lv_iload_n hx hb dX1_readPart_0 rfl (lv_at hl 1 rfl) ?_
  refine lv_iconst (v := nI 1) hx hb dX1_readPart_1 (by decide) ?_
  refine lv_iadd hx hb dX1_readPart_2 ?_
  refine zrw (nI_add _ _) ?_
  refine lv_iconst (v := nI 5) hx hb dX1_readPart_3 (by decide) ?_
  refine lv_icmp_ge (tgt := 18) hx hb dX1_readPart_4 (by decide) (fun c4_1 => ?_) (fun c4_1 => ?_)
  · have c4_1 : 5 ≤ 3 := (nI_leI (a := 5) (b := 3) (by omega) (by omega)).mp c4_1
    exact absurd c4_1 (by omega)
  · have c4_1 : ¬ (5 ≤ 3) := fun h9 => c4_1 ((nI_leI (a := 5) (b := 3) (by omega) (by omega)).mpr h9)
    refine lv_aload_n hx hb dX1_readPart_7 rfl (lv_at hl 0 rfl) ?_
    refine lv_iload_n hx hb dX1_readPart_8 rfl (lv_at hl 1 rfl) ?_
    refine lv_iconst (v := nI 1) hx hb dX1_readPart_9 (by decide) ?_
    refine lv_iadd hx hb dX1_readPart_10 ?_
    refine zrw (nI_add _ _) ?_
    refine lv_iload_n hx hb dX1_readPart_11 rfl (lv_at hl 2 rfl) ?_
    refine zci (wr := []) (va_runV (As := [.int (nI 3), .int (nI 0)]) (rest := []) ⟨hx, hb, hml, hown, hts⟩ (c_X1_readLevel_3_0 l D cI cJ ad bd h hl9 ht hc hst L u T TB p c C b q tl (by first | rfl | assumption | omega) (by first | rfl | assumption | omega) (by first | rfl | assumption | omega) (by first | rfl | assumption | omega) (by first | rfl | assumption | omega) (by first | rfl | assumption | omega) hR s.heap.size) (cwV 2 hts gX1_readPart_X1_readLevel rfl rfl rfl (by decide +kernel) ⟨Nat.le_of_ble_eq_true rfl, Nat.le_of_ble_eq_true rfl⟩) (zpVs hG hK hN hZ hP hD hS hA [0, 1, 2, 3] rfl (by decide) 0 rfl rfl rfl) rfl rfl hl.1 rfl (lv_room (Nat.le_of_ble_eq_true rfl)) dX1_readPart_12 ⟨Nat.zero_le _, Nat.zero_le _⟩) hP hD hS hA [0, 1, 2, 3] [] rfl rfl (by decide) (by decide) (fun r_4 w_3 H locs h_2 hP hD hS => ?_)
    obtain ⟨c9_5, C9_6, hq9_7, hx9_8, rfl, rfl⟩ := h_2
    have hP : va_P D vwCl [(h, .inr (1, [.ref hl9, .ref ht, .int (nI L), .ref (ad u), .int (nI q)])), (hl9, .inr (0, [.ref hc, .int (nI c9_5), .ref hst])), (hc, .inl (cI, 60, .inl C9_6)), (ht, .inl (cI, 60, .inl TB))] H := hP
    have hD : va_D AA [(h, .inr (1, [.ref hl9, .ref ht, .int (nI L), .ref (ad u), .int (nI q)])), (hl9, .inr (0, [.ref hc, .int (nI c9_5), .ref hst])), (hc, .inl (cI, 60, .inl C9_6)), (ht, .inl (cI, 60, .inl TB))] := hD
    refine lv_goto (tgt := 23) hx hb dX1_readPart_15 (by decide) ?_
    exact hret hP hD hS dX1_readPart_23 nar_bI (by exact ⟨_, _, hq9_7, hx9_8, rfl, rfl⟩)
set_option maxHeartbeats 4000000 in
set_option maxRecDepth 100000 in
theorem c_X1_readLevel_2_0 (l : Launch) (D : va_G) (cI cJ : ClassId) (ad : Nat → Nat) (bd : Nat → Nat) (h : Nat) (hl9 : Nat) (ht : Nat) (hc : Nat) (hst : Nat) (L : Nat) (u : Nat) (T : Nat → Nat) (TB : Nat → Int32) (p : Nat) (c : Nat) (C : Nat → Int32) (b : Bool) (q : Nat) (tl : zTks) (hL : L ≤ 60) (hu1 : u ≤ 1) (hT : ∀ i, i < L → T i < 256) (htb : ∀ i, i < L → TB i = nI (T i)) (hp : p ≤ L) (hcp : c ≤ p) (hR : zLS T L (zQ T L u 5) 3 p = (b, q, tl)) : zTi ad bd l yX1_readLevel wsX1_readLevel ({ frames := 65, cells := 0, slots := 0, locals := 1520 } : Room) D [(cI, .int), (cJ, .array .int)] [.ref h, .int (nI 2), .int (nI 0)] [(h, .inr (1, [.ref hl9, .ref ht, .int (nI L), .ref (ad u), .int (nI p)])), (hl9, .inr (0, [.ref hc, .int (nI c), .ref hst])), (hc, .inl (cI, 60, .inl C)), (ht, .inl (cI, 60, .inl TB))] (fun r w => ∃ (c9 : Nat) (C9 : Nat → Int32), c9 ≤ q ∧ (b = true → c9 = c + tl.length ∧ C9 = zapp C c tl) ∧ r = bI (b = true) ∧ w = [(h, .inr (1, [.ref hl9, .ref ht, .int (nI L), .ref (ad u), .int (nI q)])), (hl9, .inr (0, [.ref hc, .int (nI c9), .ref hst])), (hc, .inl (cI, 60, .inl C9)), (ht, .inl (cI, 60, .inl TB))]) := by
  refine zTi.start (cc := cX1_readLevel) (maxL := 6) (rt := .boolean) (by first | decide | decide +kernel) rfl (Nat.le_of_ble_eq_true rfl) ?_
  intro pg ev s mt args below meth cd ls AA QQ ⟨hx, hb, hml, hr, hlocks, hown, hts, hK, hN, hZ, hP, hD, hA, hS, hl⟩ hG hret
  have hown : s.vm.findClass RX1 = some mt.cls := hown
  have hl : lv_has ls 6 [(0, .ref h), (1, .int (nI 2)), (2, .int (nI 0))] := hl
  have hin0 : ∀ w ∈ wsX00, w ∈ wsX1_readLevel := fun w h => List.mem_cons_of_mem _ (List.mem_append_right _ (h))
  have hin1 : ∀ w ∈ wsX10, w ∈ wsX1_readLevel := fun w h => List.mem_cons_of_mem _ (List.mem_append_left _ (List.mem_append_right _ (h)))
  have hR : zLv T L 2 (zLS T L (zQ T L u 5) 2) p = (b, q, tl) := hR
  obtain ⟨b1, q1, t1, hR1⟩ : ∃ (b0 : Bool) (q0 : Nat) (t0 : zTks), zLS T L (zQ T L u 5) 2 p = (b0, q0, t0) := ⟨_, _, _, rfl⟩
  have hg1 := (zLS_gd (T := T) (zQ_gd (T := T) (L := L) (u := u) 5) 2) p (by omega)
  rw [hR1] at hg1
  obtain ⟨hga1, hgb1, hgc1⟩ : p ≤ q1 ∧ q1 ≤ L ∧ (b1 = true → p < q1 ∧ t1.length ≤ q1 - p ∧ zw1 t1) := hg1
  refine lv_aload_n hx hb dX1_readLevel_0 rfl (lv_at hl 0 rfl) ?_
  refine lv_iload_n hx hb dX1_readLevel_1 rfl (lv_at hl 1 rfl) ?_
  refine lv_iload_n hx hb dX1_readLevel_2 rfl (lv_at hl 2 rfl) ?_
  refine zci (wr := []) (va_runV (As := [.int (nI 2), .int (nI 0)]) (rest := []) ⟨hx, hb, hml, hown, hts⟩ (c_X1_readPart_2_0 l D cI cJ ad bd h hl9 ht hc hst L u T TB p c C b1 q1 t1 (by first | rfl | assumption | omega) (by first | rfl | assumption | omega) (by first | rfl | assumption | omega) (by first | rfl | assumption | omega) (by first | rfl | assumption | omega) (by first | rfl | assumption | omega) hR1 s.heap.size) (cwV 2 hts gX1_readLevel_X1_readPart rfl rfl rfl (by decide +kernel) ⟨Nat.le_of_ble_eq_true rfl, Nat.le_of_ble_eq_true rfl⟩) (zpVs hG hK hN hZ hP hD hS hA [0, 1, 2, 3] rfl (by decide) 0 rfl rfl rfl) rfl rfl hl.1 rfl (lv_room (Nat.le_of_ble_eq_true rfl)) dX1_readLevel_3 ⟨Nat.zero_le _, Nat.zero_le _⟩) hP hD hS hA [0, 1, 2, 3] [] rfl rfl (by decide) (by decide) (fun r_3 w_2 H locs h_1 hP hD hS => ?_)
  obtain ⟨c9_4, C9_5, hq9_6, hx9_7, rfl, rfl⟩ := h_1
  have hP : va_P D vwCl [(h, .inr (1, [.ref hl9, .ref ht, .int (nI L), .ref (ad u), .int (nI q1)])), (hl9, .inr (0, [.ref hc, .int (nI c9_4), .ref hst])), (hc, .inl (cI, 60, .inl C9_5)), (ht, .inl (cI, 60, .inl TB))] H := hP
  have hD : va_D AA [(h, .inr (1, [.ref hl9, .ref ht, .int (nI L), .ref (ad u), .int (nI q1)])), (hl9, .inr (0, [.ref hc, .int (nI c9_4), .ref hst])), (hc, .inl (cI, 60, .inl C9_5)), (ht, .inl (cI, 60, .inl TB))] := hD
  refine lv_if_ne (tgt := 11) hx hb dX1_readLevel_6 (by decide) (fun c6_8 => ?_) (fun c6_8 => ?_)
  · have c6_8 := bI_n0.mp c6_8
    obtain ⟨hgd1, hge1, hgf1⟩ := hgc1 c6_8
    obtain ⟨he1, hE1⟩ := hx9_7 c6_8
    subst he1; subst hE1
    have hz := zLv_tt hR hR1 c6_8
    refine lv_iload_n hx hb dX1_readLevel_11 rfl (lv_at hl 1 rfl) ?_
    refine lv_iconst (v := nI 2) hx hb dX1_readLevel_12 (by decide) ?_
    refine lv_icmp_ne (tgt := 20) hx hb dX1_readLevel_13 (by decide) (fun c13_9 => ?_) (fun c13_9 => ?_)
    · have c13_9 : ¬ (2 = 2) := fun h9 => c13_9 ((nI_eq (a := 2) (b := 2) (by omega) (by omega)).mpr h9)
      exact absurd c13_9 (by omega)
    · have c13_9 : 2 = 2 := (nI_eq (a := 2) (b := 2) (by omega) (by omega)).mp c13_9
      refine lv_iconst (v := nI 1) hx hb dX1_readLevel_16 (by decide) ?_
      refine lv_goto (tgt := 22) hx hb dX1_readLevel_17 (by decide) ?_
      refine lv_istore_n (lv' := [(3, .int (nI 1)), (0, .ref h), (1, .int (nI 2)), (2, .int (nI 0))]) hx hb dX1_readLevel_22 rfl hl (by decide) rfl (fun ls hl => ?_)
      refine lv_iconst (v := nI 0) hx hb dX1_readLevel_23 (by decide) ?_
      refine lv_istore (lv' := [(4, .int (nI 0)), (3, .int (nI 1)), (0, .ref h), (1, .int (nI 2)), (2, .int (nI 0))]) hx hb dX1_readLevel_24 hl (by decide) rfl (fun ls hl => ?_)
      refine lv_iload hx hb dX1_readLevel_26 (lv_at hl 0 rfl) ?_
      refine lv_iload_n hx hb dX1_readLevel_28 rfl (lv_at hl 1 rfl) ?_
      refine lv_icmp_ge (tgt := 107) hx hb dX1_readLevel_29 (by decide) (fun c29_10 => ?_) (fun c29_10 => ?_)
      · have c29_10 : 1 ≤ 0 := (nI_leI (a := 1) (b := 0) (by omega) (by omega)).mp c29_10
        exact absurd c29_10 (by omega)
      · have c29_10 : ¬ (1 ≤ 0) := fun h9 => c29_10 ((nI_leI (a := 1) (b := 0) (by omega) (by omega)).mpr h9)
        refine lv_aload_n hx hb dX1_readLevel_32 rfl (lv_at hl 2 rfl) ?_
        refine va_get (ci := 1) (v := .int (nI q1)) (C := RX1) (T := TX1) (N := 5) hx hb hts hin1 hown hK hP 0 rfl rfl 4 (by decide) (hts (.fieldLink RX1 32 "UpAllRound$Reader" "place" "I") (List.mem_of_getElem? (i := 1) rfl)) (fun _ h9 => h9) rfl dX1_readLevel_33 ?_
        refine lv_aload_n hx hb dX1_readLevel_36 rfl (lv_at hl 2 rfl) ?_
        refine va_get (ci := 1) (v := .int (nI L)) (C := RX1) (T := TX1) (N := 5) hx hb hts hin1 hown hK hP 0 rfl rfl 2 (by decide) (hts (.fieldLink RX1 22 "UpAllRound$Reader" "length" "I") (List.mem_of_getElem? (i := 2) rfl)) (fun _ h9 => h9) rfl dX1_readLevel_37 ?_
        refine lv_icmp_ge (tgt := 107) hx hb dX1_readLevel_40 (by decide) (fun c40_11 => ?_) (fun c40_11 => ?_)
        · have c40_11 : L ≤ q1 := (nI_leI (a := L) (b := q1) (by omega) (by omega)).mp c40_11
          refine lv_iconst (v := nI 1) hx hb dX1_readLevel_107 (by decide) ?_
          exact hret hP hD hS dX1_readLevel_108 rfl (by obtain ⟨e1, e2, e3⟩ := zLe (f := 60) hz (by omega); subst e1; subst e2; subst e3; exact ⟨_, _, by omega, fun _ => ⟨rfl, rfl⟩, (bI_t rfl).symm, rfl⟩)
        · have c40_11 : ¬ (L ≤ q1) := fun h9 => c40_11 ((nI_leI (a := L) (b := q1) (by omega) (by omega)).mpr h9)
          refine lv_aload_n hx hb dX1_readLevel_43 rfl (lv_at hl 2 rfl) ?_
          refine va_get (ci := 1) (v := .ref ht) (C := RX1) (T := TX1) (N := 5) hx hb hts hin1 hown hK hP 0 rfl rfl 1 (by decide) (hts (.fieldLink RX1 18 "UpAllRound$Reader" "tape" "[I") (List.mem_of_getElem? (i := 3) rfl)) (fun _ h9 => h9) rfl dX1_readLevel_44 ?_
          refine lv_aload_n hx hb dX1_readLevel_47 rfl (lv_at hl 2 rfl) ?_
          refine va_get (ci := 1) (v := .int (nI q1)) (C := RX1) (T := TX1) (N := 5) hx hb hts hin1 hown hK hP 0 rfl rfl 4 (by decide) (hts (.fieldLink RX1 32 "UpAllRound$Reader" "place" "I") (List.mem_of_getElem? (i := 1) rfl)) (fun _ h9 => h9) rfl dX1_readLevel_48 ?_
          refine zald (t := q1) hx hb hK hP 3 rfl (by omega) (by decide) dX1_readLevel_51 ?_
          refine zrw (htb q1 (by omega)) ?_
          refine zcsE (va_runS (As := [.int (nI (T q1))]) (rest := []) ⟨hx, hb, hml, hown, hts⟩ (c_X1_levelOf l D cI cJ (T q1) (hT q1 (by omega)) H.size) (va_cwS 1 hts gX1_readLevel_X1_levelOf rfl rfl rfl (by decide +kernel) ⟨Nat.le_of_ble_eq_true rfl, Nat.le_of_ble_eq_true rfl⟩) (zpS hK hN hZ hP hD hS hA [] rfl (by decide)) rfl rfl hl.1 rfl (lv_room (Nat.le_of_ble_eq_true rfl)) dX1_readLevel_52 ⟨Nat.zero_le _, Nat.zero_le _⟩) ?_
          refine lv_iload_n hx hb dX1_readLevel_55 rfl (lv_at hl 3 rfl) ?_
          refine lv_icmp_ne (tgt := 107) hx hb dX1_readLevel_56 (by decide) (fun c56_12 => ?_) (fun c56_12 => ?_)
          · have c56_12 : ¬ (((zlv (T q1))) = 2) := fun h9 => c56_12 ((nI_eq (a := (zlv (T q1))) (b := 2) (by have h91 := zlv_le (T q1); omega) (by have h91 := zlv_le (T q1); omega)).mpr h9)
            refine lv_iconst (v := nI 1) hx hb dX1_readLevel_107 (by decide) ?_
            exact hret hP hD hS dX1_readLevel_108 rfl (by obtain ⟨e1, e2, e3⟩ := zLe (f := 60) hz (by omega); subst e1; subst e2; subst e3; exact ⟨_, _, by omega, fun _ => ⟨rfl, rfl⟩, (bI_t rfl).symm, rfl⟩)
          · have c56_12 : ((zlv (T q1))) = 2 := (nI_eq (a := (zlv (T q1))) (b := 2) (by have h91 := zlv_le (T q1); omega) (by have h91 := zlv_le (T q1); omega)).mp c56_12
            refine lv_aload_n hx hb dX1_readLevel_59 rfl (lv_at hl 2 rfl) ?_
            refine va_get (ci := 1) (v := .ref ht) (C := RX1) (T := TX1) (N := 5) hx hb hts hin1 hown hK hP 0 rfl rfl 1 (by decide) (hts (.fieldLink RX1 18 "UpAllRound$Reader" "tape" "[I") (List.mem_of_getElem? (i := 3) rfl)) (fun _ h9 => h9) rfl dX1_readLevel_60 ?_
            refine lv_aload_n hx hb dX1_readLevel_63 rfl (lv_at hl 2 rfl) ?_
            refine va_get (ci := 1) (v := .int (nI q1)) (C := RX1) (T := TX1) (N := 5) hx hb hts hin1 hown hK hP 0 rfl rfl 4 (by decide) (hts (.fieldLink RX1 32 "UpAllRound$Reader" "place" "I") (List.mem_of_getElem? (i := 1) rfl)) (fun _ h9 => h9) rfl dX1_readLevel_64 ?_
            refine zald (t := q1) hx hb hK hP 3 rfl (by omega) (by decide) dX1_readLevel_67 ?_
            refine zrw (htb q1 (by omega)) ?_
            refine lv_istore (lv' := [(5, .int (nI (T q1))), (4, .int (nI 0)), (3, .int (nI 1)), (0, .ref h), (1, .int (nI 2)), (2, .int (nI 0))]) hx hb dX1_readLevel_68 hl (by decide) rfl (fun ls hl => ?_)
            refine lv_aload_n hx hb dX1_readLevel_70 rfl (lv_at hl 3 rfl) ?_
            refine lv_dup hx hb dX1_readLevel_71 rfl ?_
            refine va_get (ci := 1) (v := .int (nI q1)) (C := RX1) (T := TX1) (N := 5) hx hb hts hin1 hown hK hP 0 rfl rfl 4 (by decide) (hts (.fieldLink RX1 32 "UpAllRound$Reader" "place" "I") (List.mem_of_getElem? (i := 1) rfl)) (fun _ h9 => h9) rfl dX1_readLevel_72 ?_
            refine lv_iconst (v := nI 1) hx hb dX1_readLevel_75 (by decide) ?_
            refine lv_iadd hx hb dX1_readLevel_76 ?_
            refine zrw (nI_add _ _) ?_
            refine va_put (ci := 1) (v := .int (nI (q1 + 1))) (ty := .int) (C := RX1) (T := TX1) (N := 5) hx hb hts hin1 tyX1 tyX1_ok nmX1 hown hK hP hD hS 0 rfl rfl 4 (by decide) (hts (.fieldLink RX1 32 "UpAllRound$Reader" "place" "I") (List.mem_of_getElem? (i := 1) rfl)) (fun _ h9 => h9) rfl (by decide +kernel) rfl rfl (Nat.le_of_ble_eq_true rfl) dX1_readLevel_77 (fun H locs hP hD hS => ?_)
            have hP : va_P D vwCl [(h, .inr (1, [.ref hl9, .ref ht, .int (nI L), .ref (ad u), .int (nI (q1 + 1))])), (hl9, .inr (0, [.ref hc, .int (nI ((c + t1.length))), .ref hst])), (hc, .inl (cI, 60, .inl (zapp C c t1))), (ht, .inl (cI, 60, .inl TB))] H := hP
            have hD : va_D AA [(h, .inr (1, [.ref hl9, .ref ht, .int (nI L), .ref (ad u), .int (nI (q1 + 1))])), (hl9, .inr (0, [.ref hc, .int (nI ((c + t1.length))), .ref hst])), (hc, .inl (cI, 60, .inl (zapp C c t1))), (ht, .inl (cI, 60, .inl TB))] := hD
            obtain ⟨b2, q2, t2, hR2⟩ : ∃ (b0 : Bool) (q0 : Nat) (t0 : zTks), zLS T L (zQ T L u 5) 2 (q1 + 1) = (b0, q0, t0) := ⟨_, _, _, rfl⟩
            have hg2 := (zLS_gd (T := T) (zQ_gd (T := T) (L := L) (u := u) 5) 2) (q1 + 1) (by omega)
            rw [hR2] at hg2
            obtain ⟨hga2, hgb2, hgc2⟩ : (q1 + 1) ≤ q2 ∧ q2 ≤ L ∧ (b2 = true → (q1 + 1) < q2 ∧ t2.length ≤ q2 - (q1 + 1) ∧ zw1 t2) := hg2
            refine lv_aload_n hx hb dX1_readLevel_80 rfl (lv_at hl 3 rfl) ?_
            refine lv_iload_n hx hb dX1_readLevel_81 rfl (lv_at hl 4 rfl) ?_
            refine lv_iload_n hx hb dX1_readLevel_82 rfl (lv_at hl 5 rfl) ?_
            refine zci (wr := []) (va_runV (As := [.int (nI 2), .int (nI 0)]) (rest := []) ⟨hx, hb, hml, hown, hts⟩ (c_X1_readPart_2_0 l D cI cJ ad bd h hl9 ht hc hst L u T TB (q1 + 1) ((c + t1.length)) (zapp C c t1) b2 q2 t2 (by first | rfl | assumption | omega) (by first | rfl | assumption | omega) (by first | rfl | assumption | omega) (by first | rfl | assumption | omega) (by omega) (by omega) hR2 H.size) (cwV 2 hts gX1_readLevel_X1_readPart rfl rfl rfl (by decide +kernel) ⟨Nat.le_of_ble_eq_true rfl, Nat.le_of_ble_eq_true rfl⟩) (zpVs hG hK hN hZ hP hD hS hA [0, 1, 2, 3] rfl (by decide) 0 rfl rfl rfl) rfl rfl hl.1 rfl (lv_room (Nat.le_of_ble_eq_true rfl)) dX1_readLevel_83 ⟨Nat.zero_le _, Nat.zero_le _⟩) hP hD hS hA [0, 1, 2, 3] [] rfl rfl (by decide) (by decide) (fun r_15 w_14 H locs h_13 hP hD hS => ?_)
            obtain ⟨c9_16, C9_17, hq9_18, hx9_19, rfl, rfl⟩ := h_13
            have hP : va_P D vwCl [(h, .inr (1, [.ref hl9, .ref ht, .int (nI L), .ref (ad u), .int (nI q2)])), (hl9, .inr (0, [.ref hc, .int (nI c9_16), .ref hst])), (hc, .inl (cI, 60, .inl C9_17)), (ht, .inl (cI, 60, .inl TB))] H := hP
            have hD : va_D AA [(h, .inr (1, [.ref hl9, .ref ht, .int (nI L), .ref (ad u), .int (nI q2)])), (hl9, .inr (0, [.ref hc, .int (nI c9_16), .ref hst])), (hc, .inl (cI, 60, .inl C9_17)), (ht, .inl (cI, 60, .inl TB))] := hD
            refine lv_if_ne (tgt := 91) hx hb dX1_readLevel_86 (by decide) (fun c86_20 => ?_) (fun c86_20 => ?_)
            · have c86_20 := bI_n0.mp c86_20
              obtain ⟨hgd2, hge2, hgf2⟩ := hgc2 c86_20
              obtain ⟨he2, hE2⟩ := hx9_19 c86_20
              subst he2; subst hE2
              refine lv_aload_n hx hb dX1_readLevel_91 rfl (lv_at hl 3 rfl) ?_
              refine va_get (ci := 1) (v := .ref hl9) (C := RX1) (T := TX1) (N := 5) hx hb hts hin1 hown hK hP 0 rfl rfl 0 (by decide) (hts (.fieldLink RX1 12 "UpAllRound$Reader" "law" "LUpAllRound$Law;") (List.mem_of_getElem? (i := 4) rfl)) (fun _ h9 => h9) rfl dX1_readLevel_92 ?_
              refine lv_iload hx hb dX1_readLevel_95 (lv_at hl 0 rfl) ?_
              refine lv_ineg hx hb dX1_readLevel_97 ?_
              refine zcv (wr := [(h, .inr (1, [.ref hl9, .ref ht, .int (nI L), .ref (ad u), .int (nI q2)])), (ht, .inl (cI, 60, .inl TB))]) (va_runVN (As := [.int (-(nI (T q1)))]) (rest := []) ⟨hx, hb, hml, hown, hts⟩ (c_X0_add l D cI cJ hl9 hc hst ((c + t1.length + t2.length)) (zapp (zapp C c t1) (c + t1.length) t2) (-(nI (T q1))) (by omega) H.size) ⟨va_cnB 1 hts gX1_readLevel_X0_add_n61 rfl rfl rfl (hN (.methodLinkNest "UpAllRound$Reader" 61 yX0_add "UpAllRound") (List.mem_of_getElem? (i := 38) rfl)) (hts (.initialized RX0) (List.mem_of_getElem? (i := 13) rfl)) (by decide +kernel) ⟨Nat.le_of_ble_eq_true rfl, Nat.le_of_ble_eq_true rfl⟩, (hts (.instanceMethod yX0_add) (List.mem_of_getElem? (i := 12) rfl)), (hts (.selects RX0 yX0_add yX0_add) (List.mem_of_getElem? (i := 14) rfl))⟩ (zpV hK hN hZ hP hD hS hA [1, 2] rfl (by decide) 1 rfl rfl rfl) rfl rfl hl.1 rfl (lv_room (Nat.le_of_ble_eq_true rfl)) dX1_readLevel_98 ⟨Nat.zero_le _, Nat.zero_le _⟩) hP hD hS hA [1, 2] [0, 3] rfl rfl (by decide) (by decide) (fun w_22 H locs h_21 hP hD hS => ?_)
              obtain rfl := h_21
              have hP : va_P D vwCl [(h, .inr (1, [.ref hl9, .ref ht, .int (nI L), .ref (ad u), .int (nI q2)])), (ht, .inl (cI, 60, .inl TB)), (hl9, .inr (0, [.ref hc, .int (nI (((c + t1.length + t2.length)) + 1)), .ref hst])), (hc, .inl (cI, 60, .inl (upd (zapp (zapp C c t1) (c + t1.length) t2) ((c + t1.length + t2.length)) (-(nI (T q1))))))] H := hP
              have hD : va_D AA [(h, .inr (1, [.ref hl9, .ref ht, .int (nI L), .ref (ad u), .int (nI q2)])), (ht, .inl (cI, 60, .inl TB)), (hl9, .inr (0, [.ref hc, .int (nI (((c + t1.length + t2.length)) + 1)), .ref hst])), (hc, .inl (cI, 60, .inl (upd (zapp (zapp C c t1) (c + t1.length) t2) ((c + t1.length + t2.length)) (-(nI (T q1))))))] := hD
              refine lv_iinc (v := nI (0 + 1)) (lv' := [(4, .int (nI (0 + 1))), (5, .int (nI (T q1))), (3, .int (nI 1)), (0, .ref h), (1, .int (nI 2)), (2, .int (nI 0))]) hx hb dX1_readLevel_101 hl (k := 1) rfl (nI_add _ _) (by decide) rfl (fun ls hl => ?_)
              refine lv_goto (tgt := 26) hx hb dX1_readLevel_104 (by decide) ?_
              refine lv_iload hx hb dX1_readLevel_26 (lv_at hl 0 rfl) ?_
              refine lv_iload_n hx hb dX1_readLevel_28 rfl (lv_at hl 2 rfl) ?_
              refine lv_icmp_ge (tgt := 107) hx hb dX1_readLevel_29 (by decide) (fun c29_23 => ?_) (fun c29_23 => ?_)
              · have c29_23 : 1 ≤ (0 + 1) := (nI_leI (a := 1) (b := 0 + 1) (by omega) (by omega)).mp c29_23
                refine lv_iconst (v := nI 1) hx hb dX1_readLevel_107 (by decide) ?_
                have hP := hP.sub (ws' := [(h, .inr (1, [.ref hl9, .ref ht, .int (nI L), .ref (ad u), .int (nI q2)])), (hl9, .inr (0, [.ref hc, .int (nI (((c + t1.length + t2.length)) + 1)), .ref hst])), (hc, .inl (cI, 60, .inl (upd (zapp (zapp C c t1) (c + t1.length) t2) ((c + t1.length + t2.length)) (-(nI (T q1)))))), (ht, .inl (cI, 60, .inl TB))]) [0, 2, 3, 1] rfl
                have hD := hD.sub (ws' := [(h, .inr (1, [.ref hl9, .ref ht, .int (nI L), .ref (ad u), .int (nI q2)])), (hl9, .inr (0, [.ref hc, .int (nI (((c + t1.length + t2.length)) + 1)), .ref hst])), (hc, .inl (cI, 60, .inl (upd (zapp (zapp C c t1) (c + t1.length) t2) ((c + t1.length + t2.length)) (-(nI (T q1)))))), (ht, .inl (cI, 60, .inl TB))]) [0, 2, 3, 1] (by decide) rfl
                exact hret hP hD hS dX1_readLevel_108 rfl (by obtain ⟨e1, e2, e3⟩ := zL2 hz ⟨by omega, by omega⟩ hR2 (by assumption); subst e1; subst e2; subst e3; exact ⟨_, _, by omega, fun _ => ⟨zlen1, zapp1⟩, (bI_t rfl).symm, rfl⟩)
              · have c29_23 : ¬ (1 ≤ (0 + 1)) := fun h9 => c29_23 ((nI_leI (a := 1) (b := 0 + 1) (by omega) (by omega)).mpr h9)
                exact absurd c29_23 (by omega)
            · have c86_20 := bI_0.mp c86_20
              refine lv_iconst (v := nI 0) hx hb dX1_readLevel_89 (by decide) ?_
              exact hret hP hD hS dX1_readLevel_90 rfl (by obtain ⟨e1, e2⟩ := zLf hz ⟨by omega, by omega⟩ hR2 (by assumption); subst e1; subst e2; exact ⟨_, _, hq9_18, fun h9 => (by cases h9), (bI_f (by decide)).symm, rfl⟩)
  · have c6_8 := bI_0.mp c6_8
    refine lv_iconst (v := nI 0) hx hb dX1_readLevel_9 (by decide) ?_
    exact hret hP hD hS dX1_readLevel_10 rfl (by obtain ⟨e1, e2⟩ := zLv_ff hR hR1 (by assumption); subst e1; subst e2; exact ⟨_, _, hq9_6, fun h9 => (by cases h9), (bI_f (by decide)).symm, rfl⟩)
set_option maxHeartbeats 4000000 in
set_option maxRecDepth 100000 in
theorem c_X1_readPart_1_0 (l : Launch) (D : va_G) (cI cJ : ClassId) (ad : Nat → Nat) (bd : Nat → Nat) (h : Nat) (hl9 : Nat) (ht : Nat) (hc : Nat) (hst : Nat) (L : Nat) (u : Nat) (T : Nat → Nat) (TB : Nat → Int32) (p : Nat) (c : Nat) (C : Nat → Int32) (b : Bool) (q : Nat) (tl : zTks) (hL : L ≤ 60) (hu1 : u ≤ 1) (hT : ∀ i, i < L → T i < 256) (htb : ∀ i, i < L → TB i = nI (T i)) (hp : p ≤ L) (hcp : c ≤ p) (hR : zLS T L (zQ T L u 5) 3 p = (b, q, tl)) : zTi ad bd l yX1_readPart wsX1_readPart ({ frames := 66, cells := 0, slots := 0, locals := 1545 } : Room) D [(cI, .int), (cJ, .array .int)] [.ref h, .int (nI 1), .int (nI 0)] [(h, .inr (1, [.ref hl9, .ref ht, .int (nI L), .ref (ad u), .int (nI p)])), (hl9, .inr (0, [.ref hc, .int (nI c), .ref hst])), (hc, .inl (cI, 60, .inl C)), (ht, .inl (cI, 60, .inl TB))] (fun r w => ∃ (c9 : Nat) (C9 : Nat → Int32), c9 ≤ q ∧ (b = true → c9 = c + tl.length ∧ C9 = zapp C c tl) ∧ r = bI (b = true) ∧ w = [(h, .inr (1, [.ref hl9, .ref ht, .int (nI L), .ref (ad u), .int (nI q)])), (hl9, .inr (0, [.ref hc, .int (nI c9), .ref hst])), (hc, .inl (cI, 60, .inl C9)), (ht, .inl (cI, 60, .inl TB))]) := by
  refine zTi.start (cc := cX1_readPart) (maxL := 3) (rt := .boolean) (by first | decide | decide +kernel) rfl (Nat.le_of_ble_eq_true rfl) ?_
  intro pg ev s mt args below meth cd ls AA QQ ⟨hx, hb, hml, hr, hlocks, hown, hts, hK, hN, hZ, hP, hD, hA, hS, hl⟩ hG hret
  have hown : s.vm.findClass RX1 = some mt.cls := hown
  have hl : lv_has ls 3 [(0, .ref h), (1, .int (nI 1)), (2, .int (nI 0))] := hl
  have hin0 : ∀ w ∈ wsX00, w ∈ wsX1_readPart := fun w h => List.mem_cons_of_mem _ (List.mem_append_right _ (h))
  have hin1 : ∀ w ∈ wsX10, w ∈ wsX1_readPart := fun w h => List.mem_cons_of_mem _ (List.mem_append_left _ (List.mem_append_right _ (h)))
  refine lv_iload_n hx hb dX1_readPart_0 rfl (lv_at hl 1 rfl) ?_
  refine lv_iconst (v := nI 1) hx hb dX1_readPart_1 (by decide) ?_
  refine lv_iadd hx hb dX1_readPart_2 ?_
  refine zrw (nI_add _ _) ?_
  refine lv_iconst (v := nI 5) hx hb dX1_readPart_3 (by decide) ?_
  refine lv_icmp_ge (tgt := 18) hx hb dX1_readPart_4 (by decide) (fun c4_1 => ?_) (fun c4_1 => ?_)
  · have c4_1 : 5 ≤ 2 := (nI_leI (a := 5) (b := 2) (by omega) (by omega)).mp c4_1
    exact absurd c4_1 (by omega)
  · have c4_1 : ¬ (5 ≤ 2) := fun h9 => c4_1 ((nI_leI (a := 5) (b := 2) (by omega) (by omega)).mpr h9)
    refine lv_aload_n hx hb dX1_readPart_7 rfl (lv_at hl 0 rfl) ?_
    refine lv_iload_n hx hb dX1_readPart_8 rfl (lv_at hl 1 rfl) ?_
    refine lv_iconst (v := nI 1) hx hb dX1_readPart_9 (by decide) ?_
    refine lv_iadd hx hb dX1_readPart_10 ?_
    refine zrw (nI_add _ _) ?_
    refine lv_iload_n hx hb dX1_readPart_11 rfl (lv_at hl 2 rfl) ?_
    refine zci (wr := []) (va_runV (As := [.int (nI 2), .int (nI 0)]) (rest := []) ⟨hx, hb, hml, hown, hts⟩ (c_X1_readLevel_2_0 l D cI cJ ad bd h hl9 ht hc hst L u T TB p c C b q tl (by first | rfl | assumption | omega) (by first | rfl | assumption | omega) (by first | rfl | assumption | omega) (by first | rfl | assumption | omega) (by first | rfl | assumption | omega) (by first | rfl | assumption | omega) hR s.heap.size) (cwV 2 hts gX1_readPart_X1_readLevel rfl rfl rfl (by decide +kernel) ⟨Nat.le_of_ble_eq_true rfl, Nat.le_of_ble_eq_true rfl⟩) (zpVs hG hK hN hZ hP hD hS hA [0, 1, 2, 3] rfl (by decide) 0 rfl rfl rfl) rfl rfl hl.1 rfl (lv_room (Nat.le_of_ble_eq_true rfl)) dX1_readPart_12 ⟨Nat.zero_le _, Nat.zero_le _⟩) hP hD hS hA [0, 1, 2, 3] [] rfl rfl (by decide) (by decide) (fun r_4 w_3 H locs h_2 hP hD hS => ?_)
    obtain ⟨c9_5, C9_6, hq9_7, hx9_8, rfl, rfl⟩ := h_2
    have hP : va_P D vwCl [(h, .inr (1, [.ref hl9, .ref ht, .int (nI L), .ref (ad u), .int (nI q)])), (hl9, .inr (0, [.ref hc, .int (nI c9_5), .ref hst])), (hc, .inl (cI, 60, .inl C9_6)), (ht, .inl (cI, 60, .inl TB))] H := hP
    have hD : va_D AA [(h, .inr (1, [.ref hl9, .ref ht, .int (nI L), .ref (ad u), .int (nI q)])), (hl9, .inr (0, [.ref hc, .int (nI c9_5), .ref hst])), (hc, .inl (cI, 60, .inl C9_6)), (ht, .inl (cI, 60, .inl TB))] := hD
    refine lv_goto (tgt := 23) hx hb dX1_readPart_15 (by decide) ?_
    exact hret hP hD hS dX1_readPart_23 nar_bI (by exact ⟨_, _, hq9_7, hx9_8, rfl, rfl⟩)
set_option maxHeartbeats 4000000 in
set_option maxRecDepth 100000 in
theorem c_X1_readLevel_1_0 (l : Launch) (D : va_G) (cI cJ : ClassId) (ad : Nat → Nat) (bd : Nat → Nat) (h : Nat) (hl9 : Nat) (ht : Nat) (hc : Nat) (hst : Nat) (L : Nat) (u : Nat) (T : Nat → Nat) (TB : Nat → Int32) (p : Nat) (c : Nat) (C : Nat → Int32) (b : Bool) (q : Nat) (tl : zTks) (hL : L ≤ 60) (hu1 : u ≤ 1) (hT : ∀ i, i < L → T i < 256) (htb : ∀ i, i < L → TB i = nI (T i)) (hp : p ≤ L) (hcp : c ≤ p) (hR : zLS T L (zQ T L u 5) 4 p = (b, q, tl)) : zTi ad bd l yX1_readLevel wsX1_readLevel ({ frames := 67, cells := 0, slots := 0, locals := 1567 } : Room) D [(cI, .int), (cJ, .array .int)] [.ref h, .int (nI 1), .int (nI 0)] [(h, .inr (1, [.ref hl9, .ref ht, .int (nI L), .ref (ad u), .int (nI p)])), (hl9, .inr (0, [.ref hc, .int (nI c), .ref hst])), (hc, .inl (cI, 60, .inl C)), (ht, .inl (cI, 60, .inl TB))] (fun r w => ∃ (c9 : Nat) (C9 : Nat → Int32), c9 ≤ q ∧ (b = true → c9 = c + tl.length ∧ C9 = zapp C c tl) ∧ r = bI (b = true) ∧ w = [(h, .inr (1, [.ref hl9, .ref ht, .int (nI L), .ref (ad u), .int (nI q)])), (hl9, .inr (0, [.ref hc, .int (nI c9), .ref hst])), (hc, .inl (cI, 60, .inl C9)), (ht, .inl (cI, 60, .inl TB))]) := by
  refine zTi.start (cc := cX1_readLevel) (maxL := 6) (rt := .boolean) (by first | decide | decide +kernel) rfl (Nat.le_of_ble_eq_true rfl) ?_
  intro pg ev s mt args below meth cd ls AA QQ ⟨hx, hb, hml, hr, hlocks, hown, hts, hK, hN, hZ, hP, hD, hA, hS, hl⟩ hG hret
  have hown : s.vm.findClass RX1 = some mt.cls := hown
  have hl : lv_has ls 6 [(0, .ref h), (1, .int (nI 1)), (2, .int (nI 0))] := hl
  have hin0 : ∀ w ∈ wsX00, w ∈ wsX1_readLevel := fun w h => List.mem_cons_of_mem _ (List.mem_append_right _ (h))
  have hin1 : ∀ w ∈ wsX10, w ∈ wsX1_readLevel := fun w h => List.mem_cons_of_mem _ (List.mem_append_left _ (List.mem_append_right _ (h)))
  have hR : zLv T L 1 (zLS T L (zQ T L u 5) 3) p = (b, q, tl) := hR
  obtain ⟨b1, q1, t1, hR1⟩ : ∃ (b0 : Bool) (q0 : Nat) (t0 : zTks), zLS T L (zQ T L u 5) 3 p = (b0, q0, t0) := ⟨_, _, _, rfl⟩
  have hg1 := (zLS_gd (T := T) (zQ_gd (T := T) (L := L) (u := u) 5) 3) p (by omega)
  rw [hR1] at hg1
  obtain ⟨hga1, hgb1, hgc1⟩ : p ≤ q1 ∧ q1 ≤ L ∧ (b1 = true → p < q1 ∧ t1.length ≤ q1 - p ∧ zw1 t1) := hg1
  refine lv_aload_n hx hb dX1_readLevel_0 rfl (lv_at hl 0 rfl) ?_
  refine lv_iload_n hx hb dX1_readLevel_1 rfl (lv_at hl 1 rfl) ?_
  refine lv_iload_n hx hb dX1_readLevel_2 rfl (lv_at hl 2 rfl) ?_
  refine zci (wr := []) (va_runV (As := [.int (nI 1), .int (nI 0)]) (rest := []) ⟨hx, hb, hml, hown, hts⟩ (c_X1_readPart_1_0 l D cI cJ ad bd h hl9 ht hc hst L u T TB p c C b1 q1 t1 (by first | rfl | assumption | omega) (by first | rfl | assumption | omega) (by first | rfl | assumption | omega) (by first | rfl | assumption | omega) (by first | rfl | assumption | omega) (by first | rfl | assumption | omega) hR1 s.heap.size) (cwV 2 hts gX1_readLevel_X1_readPart rfl rfl rfl (by decide +kernel) ⟨Nat.le_of_ble_eq_true rfl, Nat.le_of_ble_eq_true rfl⟩) (zpVs hG hK hN hZ hP hD hS hA [0, 1, 2, 3] rfl (by decide) 0 rfl rfl rfl) rfl rfl hl.1 rfl (lv_room (Nat.le_of_ble_eq_true rfl)) dX1_readLevel_3 ⟨Nat.zero_le _, Nat.zero_le _⟩) hP hD hS hA [0, 1, 2, 3] [] rfl rfl (by decide) (by decide) (fun r_3 w_2 H locs h_1 hP hD hS => ?_)
  obtain ⟨c9_4, C9_5, hq9_6, hx9_7, rfl, rfl⟩ := h_1
  have hP : va_P D vwCl [(h, .inr (1, [.ref hl9, .ref ht, .int (nI L), .ref (ad u), .int (nI q1)])), (hl9, .inr (0, [.ref hc, .int (nI c9_4), .ref hst])), (hc, .inl (cI, 60, .inl C9_5)), (ht, .inl (cI, 60, .inl TB))] H := hP
  have hD : va_D AA [(h, .inr (1, [.ref hl9, .ref ht, .int (nI L), .ref (ad u), .int (nI q1)])), (hl9, .inr (0, [.ref hc, .int (nI c9_4), .ref hst])), (hc, .inl (cI, 60, .inl C9_5)), (ht, .inl (cI, 60, .inl TB))] := hD
  refine lv_if_ne (tgt := 11) hx hb dX1_readLevel_6 (by decide) (fun c6_8 => ?_) (fun c6_8 => ?_)
  · have c6_8 := bI_n0.mp c6_8
    obtain ⟨hgd1, hge1, hgf1⟩ := hgc1 c6_8
    obtain ⟨he1, hE1⟩ := hx9_7 c6_8
    subst he1; subst hE1
    have hz := zLv_tt hR hR1 c6_8
    refine lv_iload_n hx hb dX1_readLevel_11 rfl (lv_at hl 1 rfl) ?_
    refine lv_iconst (v := nI 2) hx hb dX1_readLevel_12 (by decide) ?_
    refine lv_icmp_ne (tgt := 20) hx hb dX1_readLevel_13 (by decide) (fun c13_9 => ?_) (fun c13_9 => ?_)
    · have c13_9 : ¬ (1 = 2) := fun h9 => c13_9 ((nI_eq (a := 1) (b := 2) (by omega) (by omega)).mpr h9)
      refine lv_bipush (v := nI 60) hx hb dX1_readLevel_20 (by decide) ?_
      refine lv_istore_n (lv' := [(3, .int (nI 60)), (0, .ref h), (1, .int (nI 1)), (2, .int (nI 0))]) hx hb dX1_readLevel_22 rfl hl (by decide) rfl (fun ls hl => ?_)
      refine lv_iconst (v := nI 0) hx hb dX1_readLevel_23 (by decide) ?_
      refine lv_istore (lv' := [(4, .int (nI 0)), (3, .int (nI 60)), (0, .ref h), (1, .int (nI 1)), (2, .int (nI 0))]) hx hb dX1_readLevel_24 hl (by decide) rfl (fun ls hl => ?_)
      have L_26 : ∀ (fu : Nat) (f : Nat) (pv : Nat) (ta : zTks) (i : Nat) (hn : f < fu) (hz : zct ta (zLp T L 1 (zLS T L (zQ T L u 5) 3) f pv) = (b, q, tl)) (hf : L - pv < f) (hpv : pv ≤ L) (hca : c + ta.length ≤ pv) (hi1 : i + 1 ≤ pv), ∀ (ls : Array Slot), lv_has ls 6 [(0, .ref h), (1, .int (nI 1)), (2, .int (nI 0)), (3, .int (nI 60)), (4, .int (nI i))] → ∀ (H : Heap) (locs : List Loc), va_P D vwCl [(h, .inr (1, [.ref hl9, .ref ht, .int (nI L), .ref (ad u), .int (nI pv)])), (hl9, .inr (0, [.ref hc, .int (nI ((c + ta.length))), .ref hst])), (hc, .inl (cI, 60, .inl (zapp C c ta))), (ht, .inl (cI, 60, .inl TB))] H → va_D AA [(h, .inr (1, [.ref hl9, .ref ht, .int (nI L), .ref (ad u), .int (nI pv)])), (hl9, .inr (0, [.ref hc, .int (nI ((c + ta.length))), .ref hst])), (hc, .inl (cI, 60, .inl (zapp C c ta))), (ht, .inl (cI, 60, .inl TB))] → va_S AA s.heap H locs → W pg l ev ({ frames := 67, cells := 0, slots := 0, locals := 1567 } : Room) s mt args below meth cd H locs 0 0 QQ (F0 mt 26 ls []) := by
        intro fu
        induction fu with
        | zero =>
          intro  f pv ta i  hn
          exact absurd hn (by omega)
        | succ fu ih_26 =>
          intro  f pv ta i  hn hz hf hpv hca hi1 ls hl H locs hP hD hS
          obtain ⟨f1, rfl⟩ : ∃ f1, f = f1 + 1 := ⟨f - 1, by omega⟩
          refine lv_iload hx hb dX1_readLevel_26 (lv_at hl 4 rfl) ?_
          refine lv_iload_n hx hb dX1_readLevel_28 rfl (lv_at hl 3 rfl) ?_
          refine lv_icmp_ge (tgt := 107) hx hb dX1_readLevel_29 (by decide) (fun c29_10 => ?_) (fun c29_10 => ?_)
          · have c29_10 : 60 ≤ i := (nI_leI (a := 60) (b := i) (by omega) (by omega)).mp c29_10
            exact absurd c29_10 (by omega)
          · have c29_10 : ¬ (60 ≤ i) := fun h9 => c29_10 ((nI_leI (a := 60) (b := i) (by omega) (by omega)).mpr h9)
            refine lv_aload_n hx hb dX1_readLevel_32 rfl (lv_at hl 0 rfl) ?_
            refine va_get (ci := 1) (v := .int (nI pv)) (C := RX1) (T := TX1) (N := 5) hx hb hts hin1 hown hK hP 0 rfl rfl 4 (by decide) (hts (.fieldLink RX1 32 "UpAllRound$Reader" "place" "I") (List.mem_of_getElem? (i := 1) rfl)) (fun _ h9 => h9) rfl dX1_readLevel_33 ?_
            refine lv_aload_n hx hb dX1_readLevel_36 rfl (lv_at hl 0 rfl) ?_
            refine va_get (ci := 1) (v := .int (nI L)) (C := RX1) (T := TX1) (N := 5) hx hb hts hin1 hown hK hP 0 rfl rfl 2 (by decide) (hts (.fieldLink RX1 22 "UpAllRound$Reader" "length" "I") (List.mem_of_getElem? (i := 2) rfl)) (fun _ h9 => h9) rfl dX1_readLevel_37 ?_
            refine lv_icmp_ge (tgt := 107) hx hb dX1_readLevel_40 (by decide) (fun c40_11 => ?_) (fun c40_11 => ?_)
            · have c40_11 : L ≤ pv := (nI_leI (a := L) (b := pv) (by omega) (by omega)).mp c40_11
              refine lv_iconst (v := nI 1) hx hb dX1_readLevel_107 (by decide) ?_
              exact hret hP hD hS dX1_readLevel_108 rfl (by obtain ⟨e1, e2, e3⟩ := zLe (f := f1) hz (by omega); subst e1; subst e2; subst e3; exact ⟨_, _, by omega, fun _ => ⟨rfl, rfl⟩, (bI_t rfl).symm, rfl⟩)
            · have c40_11 : ¬ (L ≤ pv) := fun h9 => c40_11 ((nI_leI (a := L) (b := pv) (by omega) (by omega)).mpr h9)
              refine lv_aload_n hx hb dX1_readLevel_43 rfl (lv_at hl 0 rfl) ?_
              refine va_get (ci := 1) (v := .ref ht) (C := RX1) (T := TX1) (N := 5) hx hb hts hin1 hown hK hP 0 rfl rfl 1 (by decide) (hts (.fieldLink RX1 18 "UpAllRound$Reader" "tape" "[I") (List.mem_of_getElem? (i := 3) rfl)) (fun _ h9 => h9) rfl dX1_readLevel_44 ?_
              refine lv_aload_n hx hb dX1_readLevel_47 rfl (lv_at hl 0 rfl) ?_
              refine va_get (ci := 1) (v := .int (nI pv)) (C := RX1) (T := TX1) (N := 5) hx hb hts hin1 hown hK hP 0 rfl rfl 4 (by decide) (hts (.fieldLink RX1 32 "UpAllRound$Reader" "place" "I") (List.mem_of_getElem? (i := 1) rfl)) (fun _ h9 => h9) rfl dX1_readLevel_48 ?_
              refine zald (t := pv) hx hb hK hP 3 rfl (by omega) (by decide) dX1_readLevel_51 ?_
              refine zrw (htb pv (by omega)) ?_
              refine zcsE (va_runS (As := [.int (nI (T pv))]) (rest := []) ⟨hx, hb, hml, hown, hts⟩ (c_X1_levelOf l D cI cJ (T pv) (hT pv (by omega)) H.size) (va_cwS 1 hts gX1_readLevel_X1_levelOf rfl rfl rfl (by decide +kernel) ⟨Nat.le_of_ble_eq_true rfl, Nat.le_of_ble_eq_true rfl⟩) (zpS hK hN hZ hP hD hS hA [] rfl (by decide)) rfl rfl hl.1 rfl (lv_room (Nat.le_of_ble_eq_true rfl)) dX1_readLevel_52 ⟨Nat.zero_le _, Nat.zero_le _⟩) ?_
              refine lv_iload_n hx hb dX1_readLevel_55 rfl (lv_at hl 1 rfl) ?_
              refine lv_icmp_ne (tgt := 107) hx hb dX1_readLevel_56 (by decide) (fun c56_12 => ?_) (fun c56_12 => ?_)
              · have c56_12 : ¬ (((zlv (T pv))) = 1) := fun h9 => c56_12 ((nI_eq (a := (zlv (T pv))) (b := 1) (by have h91 := zlv_le (T pv); omega) (by have h91 := zlv_le (T pv); omega)).mpr h9)
                refine lv_iconst (v := nI 1) hx hb dX1_readLevel_107 (by decide) ?_
                exact hret hP hD hS dX1_readLevel_108 rfl (by obtain ⟨e1, e2, e3⟩ := zLe (f := f1) hz (by omega); subst e1; subst e2; subst e3; exact ⟨_, _, by omega, fun _ => ⟨rfl, rfl⟩, (bI_t rfl).symm, rfl⟩)
              · have c56_12 : ((zlv (T pv))) = 1 := (nI_eq (a := (zlv (T pv))) (b := 1) (by have h91 := zlv_le (T pv); omega) (by have h91 := zlv_le (T pv); omega)).mp c56_12
                refine lv_aload_n hx hb dX1_readLevel_59 rfl (lv_at hl 0 rfl) ?_
                refine va_get (ci := 1) (v := .ref ht) (C := RX1) (T := TX1) (N := 5) hx hb hts hin1 hown hK hP 0 rfl rfl 1 (by decide) (hts (.fieldLink RX1 18 "UpAllRound$Reader" "tape" "[I") (List.mem_of_getElem? (i := 3) rfl)) (fun _ h9 => h9) rfl dX1_readLevel_60 ?_
                refine lv_aload_n hx hb dX1_readLevel_63 rfl (lv_at hl 0 rfl) ?_
                refine va_get (ci := 1) (v := .int (nI pv)) (C := RX1) (T := TX1) (N := 5) hx hb hts hin1 hown hK hP 0 rfl rfl 4 (by decide) (hts (.fieldLink RX1 32 "UpAllRound$Reader" "place" "I") (List.mem_of_getElem? (i := 1) rfl)) (fun _ h9 => h9) rfl dX1_readLevel_64 ?_
                refine zald (t := pv) hx hb hK hP 3 rfl (by omega) (by decide) dX1_readLevel_67 ?_
                refine zrw (htb pv (by omega)) ?_
                refine lv_istore (lv' := [(5, .int (nI (T pv))), (0, .ref h), (1, .int (nI 1)), (2, .int (nI 0)), (3, .int (nI 60)), (4, .int (nI i))]) hx hb dX1_readLevel_68 hl (by decide) rfl (fun ls hl => ?_)
                refine lv_aload_n hx hb dX1_readLevel_70 rfl (lv_at hl 1 rfl) ?_
                refine lv_dup hx hb dX1_readLevel_71 rfl ?_
                refine va_get (ci := 1) (v := .int (nI pv)) (C := RX1) (T := TX1) (N := 5) hx hb hts hin1 hown hK hP 0 rfl rfl 4 (by decide) (hts (.fieldLink RX1 32 "UpAllRound$Reader" "place" "I") (List.mem_of_getElem? (i := 1) rfl)) (fun _ h9 => h9) rfl dX1_readLevel_72 ?_
                refine lv_iconst (v := nI 1) hx hb dX1_readLevel_75 (by decide) ?_
                refine lv_iadd hx hb dX1_readLevel_76 ?_
                refine zrw (nI_add _ _) ?_
                refine va_put (ci := 1) (v := .int (nI (pv + 1))) (ty := .int) (C := RX1) (T := TX1) (N := 5) hx hb hts hin1 tyX1 tyX1_ok nmX1 hown hK hP hD hS 0 rfl rfl 4 (by decide) (hts (.fieldLink RX1 32 "UpAllRound$Reader" "place" "I") (List.mem_of_getElem? (i := 1) rfl)) (fun _ h9 => h9) rfl (by decide +kernel) rfl rfl (Nat.le_of_ble_eq_true rfl) dX1_readLevel_77 (fun H locs hP hD hS => ?_)
                have hP : va_P D vwCl [(h, .inr (1, [.ref hl9, .ref ht, .int (nI L), .ref (ad u), .int (nI (pv + 1))])), (hl9, .inr (0, [.ref hc, .int (nI ((c + ta.length))), .ref hst])), (hc, .inl (cI, 60, .inl (zapp C c ta))), (ht, .inl (cI, 60, .inl TB))] H := hP
                have hD : va_D AA [(h, .inr (1, [.ref hl9, .ref ht, .int (nI L), .ref (ad u), .int (nI (pv + 1))])), (hl9, .inr (0, [.ref hc, .int (nI ((c + ta.length))), .ref hst])), (hc, .inl (cI, 60, .inl (zapp C c ta))), (ht, .inl (cI, 60, .inl TB))] := hD
                obtain ⟨b2, q2, t2, hR2⟩ : ∃ (b0 : Bool) (q0 : Nat) (t0 : zTks), zLS T L (zQ T L u 5) 3 (pv + 1) = (b0, q0, t0) := ⟨_, _, _, rfl⟩
                have hg2 := (zLS_gd (T := T) (zQ_gd (T := T) (L := L) (u := u) 5) 3) (pv + 1) (by omega)
                rw [hR2] at hg2
                obtain ⟨hga2, hgb2, hgc2⟩ : (pv + 1) ≤ q2 ∧ q2 ≤ L ∧ (b2 = true → (pv + 1) < q2 ∧ t2.length ≤ q2 - (pv + 1) ∧ zw1 t2) := hg2
                refine lv_aload_n hx hb dX1_readLevel_80 rfl (lv_at hl 1 rfl) ?_
                refine lv_iload_n hx hb dX1_readLevel_81 rfl (lv_at hl 2 rfl) ?_
                refine lv_iload_n hx hb dX1_readLevel_82 rfl (lv_at hl 3 rfl) ?_
                refine zci (wr := []) (va_runV (As := [.int (nI 1), .int (nI 0)]) (rest := []) ⟨hx, hb, hml, hown, hts⟩ (c_X1_readPart_1_0 l D cI cJ ad bd h hl9 ht hc hst L u T TB (pv + 1) ((c + ta.length)) (zapp C c ta) b2 q2 t2 (by first | rfl | assumption | omega) (by first | rfl | assumption | omega) (by first | rfl | assumption | omega) (by first | rfl | assumption | omega) (by omega) (by omega) hR2 H.size) (cwV 2 hts gX1_readLevel_X1_readPart rfl rfl rfl (by decide +kernel) ⟨Nat.le_of_ble_eq_true rfl, Nat.le_of_ble_eq_true rfl⟩) (zpVs hG hK hN hZ hP hD hS hA [0, 1, 2, 3] rfl (by decide) 0 rfl rfl rfl) rfl rfl hl.1 rfl (lv_room (Nat.le_of_ble_eq_true rfl)) dX1_readLevel_83 ⟨Nat.zero_le _, Nat.zero_le _⟩) hP hD hS hA [0, 1, 2, 3] [] rfl rfl (by decide) (by decide) (fun r_15 w_14 H locs h_13 hP hD hS => ?_)
                obtain ⟨c9_16, C9_17, hq9_18, hx9_19, rfl, rfl⟩ := h_13
                have hP : va_P D vwCl [(h, .inr (1, [.ref hl9, .ref ht, .int (nI L), .ref (ad u), .int (nI q2)])), (hl9, .inr (0, [.ref hc, .int (nI c9_16), .ref hst])), (hc, .inl (cI, 60, .inl C9_17)), (ht, .inl (cI, 60, .inl TB))] H := hP
                have hD : va_D AA [(h, .inr (1, [.ref hl9, .ref ht, .int (nI L), .ref (ad u), .int (nI q2)])), (hl9, .inr (0, [.ref hc, .int (nI c9_16), .ref hst])), (hc, .inl (cI, 60, .inl C9_17)), (ht, .inl (cI, 60, .inl TB))] := hD
                refine lv_if_ne (tgt := 91) hx hb dX1_readLevel_86 (by decide) (fun c86_20 => ?_) (fun c86_20 => ?_)
                · have c86_20 := bI_n0.mp c86_20
                  obtain ⟨hgd2, hge2, hgf2⟩ := hgc2 c86_20
                  obtain ⟨he2, hE2⟩ := hx9_19 c86_20
                  subst he2; subst hE2
                  refine lv_aload_n hx hb dX1_readLevel_91 rfl (lv_at hl 1 rfl) ?_
                  refine va_get (ci := 1) (v := .ref hl9) (C := RX1) (T := TX1) (N := 5) hx hb hts hin1 hown hK hP 0 rfl rfl 0 (by decide) (hts (.fieldLink RX1 12 "UpAllRound$Reader" "law" "LUpAllRound$Law;") (List.mem_of_getElem? (i := 4) rfl)) (fun _ h9 => h9) rfl dX1_readLevel_92 ?_
                  refine lv_iload hx hb dX1_readLevel_95 (lv_at hl 0 rfl) ?_
                  refine lv_ineg hx hb dX1_readLevel_97 ?_
                  refine zcv (wr := [(h, .inr (1, [.ref hl9, .ref ht, .int (nI L), .ref (ad u), .int (nI q2)])), (ht, .inl (cI, 60, .inl TB))]) (va_runVN (As := [.int (-(nI (T pv)))]) (rest := []) ⟨hx, hb, hml, hown, hts⟩ (c_X0_add l D cI cJ hl9 hc hst ((c + ta.length + t2.length)) (zapp (zapp C c ta) (c + ta.length) t2) (-(nI (T pv))) (by omega) H.size) ⟨va_cnB 1 hts gX1_readLevel_X0_add_n61 rfl rfl rfl (hN (.methodLinkNest "UpAllRound$Reader" 61 yX0_add "UpAllRound") (List.mem_of_getElem? (i := 38) rfl)) (hts (.initialized RX0) (List.mem_of_getElem? (i := 13) rfl)) (by decide +kernel) ⟨Nat.le_of_ble_eq_true rfl, Nat.le_of_ble_eq_true rfl⟩, (hts (.instanceMethod yX0_add) (List.mem_of_getElem? (i := 12) rfl)), (hts (.selects RX0 yX0_add yX0_add) (List.mem_of_getElem? (i := 14) rfl))⟩ (zpV hK hN hZ hP hD hS hA [1, 2] rfl (by decide) 1 rfl rfl rfl) rfl rfl hl.1 rfl (lv_room (Nat.le_of_ble_eq_true rfl)) dX1_readLevel_98 ⟨Nat.zero_le _, Nat.zero_le _⟩) hP hD hS hA [1, 2] [0, 3] rfl rfl (by decide) (by decide) (fun w_22 H locs h_21 hP hD hS => ?_)
                  obtain rfl := h_21
                  have hP : va_P D vwCl [(h, .inr (1, [.ref hl9, .ref ht, .int (nI L), .ref (ad u), .int (nI q2)])), (ht, .inl (cI, 60, .inl TB)), (hl9, .inr (0, [.ref hc, .int (nI (((c + ta.length + t2.length)) + 1)), .ref hst])), (hc, .inl (cI, 60, .inl (upd (zapp (zapp C c ta) (c + ta.length) t2) ((c + ta.length + t2.length)) (-(nI (T pv))))))] H := hP
                  have hD : va_D AA [(h, .inr (1, [.ref hl9, .ref ht, .int (nI L), .ref (ad u), .int (nI q2)])), (ht, .inl (cI, 60, .inl TB)), (hl9, .inr (0, [.ref hc, .int (nI (((c + ta.length + t2.length)) + 1)), .ref hst])), (hc, .inl (cI, 60, .inl (upd (zapp (zapp C c ta) (c + ta.length) t2) ((c + ta.length + t2.length)) (-(nI (T pv))))))] := hD
                  refine lv_iinc (v := nI (i + 1)) (lv' := [(4, .int (nI (i + 1))), (5, .int (nI (T pv))), (0, .ref h), (1, .int (nI 1)), (2, .int (nI 0)), (3, .int (nI 60))]) hx hb dX1_readLevel_101 hl (k := 5) rfl (nI_add _ _) (by decide) rfl (fun ls hl => ?_)
                  refine lv_goto (tgt := 26) hx hb dX1_readLevel_104 (by decide) ?_
                  rw [show -(nI (T pv)) = zcode (3, T pv) from rfl, zapp1, zlen1 (t := (3, T pv))] at hP hD
                  exact ih_26   f1 q2 ((ta ++ (t2 ++ [(3, T pv)]))) ((i + 1)) (by omega) (zLt (by decide) hz ⟨by omega, by omega⟩ hR2 (by assumption)) (by omega) (by omega) (by rw [← zlen1]; omega) (by omega) ls (lv_sub hl [2, 3, 4, 5, 0] rfl) H locs (hP.sub [0, 2, 3, 1] rfl) (hD.sub [0, 2, 3, 1] (by decide) rfl) hS
                · have c86_20 := bI_0.mp c86_20
                  refine lv_iconst (v := nI 0) hx hb dX1_readLevel_89 (by decide) ?_
                  exact hret hP hD hS dX1_readLevel_90 rfl (by obtain ⟨e1, e2⟩ := zLf hz ⟨by omega, by omega⟩ hR2 (by assumption); subst e1; subst e2; exact ⟨_, _, hq9_18, fun h9 => (by cases h9), (bI_f (by decide)).symm, rfl⟩)
      exact L_26 62  61 q1 t1 0 (by omega) hz (by omega) (by omega) (by omega) (by omega) ls (lv_sub hl [2, 3, 4, 1, 0] rfl) _ _ hP hD hS
    · have c13_9 : 1 = 2 := (nI_eq (a := 1) (b := 2) (by omega) (by omega)).mp c13_9
      exact absurd c13_9 (by omega)
  · have c6_8 := bI_0.mp c6_8
    refine lv_iconst (v := nI 0) hx hb dX1_readLevel_9 (by decide) ?_
    exact hret hP hD hS dX1_readLevel_10 rfl (by obtain ⟨e1, e2⟩ := zLv_ff hR hR1 (by assumption); subst e1; subst e2; exact ⟨_, _, hq9_6, fun h9 => (by cases h9), (bI_f (by decide)).symm, rfl⟩)
set_option maxHeartbeats 4000000 in
set_option maxRecDepth 100000 in
theorem c_X1_readPart_0_0 (l : Launch) (D : va_G) (cI cJ : ClassId) (ad : Nat → Nat) (bd : Nat → Nat) (h : Nat) (hl9 : Nat) (ht : Nat) (hc : Nat) (hst : Nat) (L : Nat) (u : Nat) (T : Nat → Nat) (TB : Nat → Int32) (p : Nat) (c : Nat) (C : Nat → Int32) (b : Bool) (q : Nat) (tl : zTks) (hL : L ≤ 60) (hu1 : u ≤ 1) (hT : ∀ i, i < L → T i < 256) (htb : ∀ i, i < L → TB i = nI (T i)) (hp : p ≤ L) (hcp : c ≤ p) (hR : zLS T L (zQ T L u 5) 4 p = (b, q, tl)) : zTi ad bd l yX1_readPart wsX1_readPart ({ frames := 68, cells := 0, slots := 0, locals := 1592 } : Room) D [(cI, .int), (cJ, .array .int)] [.ref h, .int (nI 0), .int (nI 0)] [(h, .inr (1, [.ref hl9, .ref ht, .int (nI L), .ref (ad u), .int (nI p)])), (hl9, .inr (0, [.ref hc, .int (nI c), .ref hst])), (hc, .inl (cI, 60, .inl C)), (ht, .inl (cI, 60, .inl TB))] (fun r w => ∃ (c9 : Nat) (C9 : Nat → Int32), c9 ≤ q ∧ (b = true → c9 = c + tl.length ∧ C9 = zapp C c tl) ∧ r = bI (b = true) ∧ w = [(h, .inr (1, [.ref hl9, .ref ht, .int (nI L), .ref (ad u), .int (nI q)])), (hl9, .inr (0, [.ref hc, .int (nI c9), .ref hst])), (hc, .inl (cI, 60, .inl C9)), (ht, .inl (cI, 60, .inl TB))]) := by
  refine zTi.start (cc := cX1_readPart) (maxL := 3) (rt := .boolean) (by first | decide | decide +kernel) rfl (Nat.le_of_ble_eq_true rfl) ?_
  intro pg ev s mt args below meth cd ls AA QQ ⟨hx, hb, hml, hr, hlocks, hown, hts, hK, hN, hZ, hP, hD, hA, hS, hl⟩ hG hret
  have hown : s.vm.findClass RX1 = some mt.cls := hown
  have hl : lv_has ls 3 [(0, .ref h), (1, .int (nI 0)), (2, .int (nI 0))] := hl
  have hin0 : ∀ w ∈ wsX00, w ∈ wsX1_readPart := fun w h => List.mem_cons_of_mem _ (List.mem_append_right _ (h))
  have hin1 : ∀ w ∈ wsX10, w ∈ wsX1_readPart := fun w h => List.mem_cons_of_mem _ (List.mem_append_left _ (List.mem_append_right _ (h)))
  refine lv_iload_n hx hb dX1_readPart_0 rfl (lv_at hl 1 rfl) ?_
  refine lv_iconst (v := nI 1) hx hb dX1_readPart_1 (by decide) ?_
  refine lv_iadd hx hb dX1_readPart_2 ?_
  refine zrw (nI_add _ _) ?_
  refine lv_iconst (v := nI 5) hx hb dX1_readPart_3 (by decide) ?_
  refine lv_icmp_ge (tgt := 18) hx hb dX1_readPart_4 (by decide) (fun c4_1 => ?_) (fun c4_1 => ?_)
  · have c4_1 : 5 ≤ 1 := (nI_leI (a := 5) (b := 1) (by omega) (by omega)).mp c4_1
    exact absurd c4_1 (by omega)
  · have c4_1 : ¬ (5 ≤ 1) := fun h9 => c4_1 ((nI_leI (a := 5) (b := 1) (by omega) (by omega)).mpr h9)
    refine lv_aload_n hx hb dX1_readPart_7 rfl (lv_at hl 0 rfl) ?_
    refine lv_iload_n hx hb dX1_readPart_8 rfl (lv_at hl 1 rfl) ?_
    refine lv_iconst (v := nI 1) hx hb dX1_readPart_9 (by decide) ?_
    refine lv_iadd hx hb dX1_readPart_10 ?_
    refine zrw (nI_add _ _) ?_
    refine lv_iload_n hx hb dX1_readPart_11 rfl (lv_at hl 2 rfl) ?_
    refine zci (wr := []) (va_runV (As := [.int (nI 1), .int (nI 0)]) (rest := []) ⟨hx, hb, hml, hown, hts⟩ (c_X1_readLevel_1_0 l D cI cJ ad bd h hl9 ht hc hst L u T TB p c C b q tl (by first | rfl | assumption | omega) (by first | rfl | assumption | omega) (by first | rfl | assumption | omega) (by first | rfl | assumption | omega) (by first | rfl | assumption | omega) (by first | rfl | assumption | omega) hR s.heap.size) (cwV 2 hts gX1_readPart_X1_readLevel rfl rfl rfl (by decide +kernel) ⟨Nat.le_of_ble_eq_true rfl, Nat.le_of_ble_eq_true rfl⟩) (zpVs hG hK hN hZ hP hD hS hA [0, 1, 2, 3] rfl (by decide) 0 rfl rfl rfl) rfl rfl hl.1 rfl (lv_room (Nat.le_of_ble_eq_true rfl)) dX1_readPart_12 ⟨Nat.zero_le _, Nat.zero_le _⟩) hP hD hS hA [0, 1, 2, 3] [] rfl rfl (by decide) (by decide) (fun r_4 w_3 H locs h_2 hP hD hS => ?_)
    obtain ⟨c9_5, C9_6, hq9_7, hx9_8, rfl, rfl⟩ := h_2
    have hP : va_P D vwCl [(h, .inr (1, [.ref hl9, .ref ht, .int (nI L), .ref (ad u), .int (nI q)])), (hl9, .inr (0, [.ref hc, .int (nI c9_5), .ref hst])), (hc, .inl (cI, 60, .inl C9_6)), (ht, .inl (cI, 60, .inl TB))] H := hP
    have hD : va_D AA [(h, .inr (1, [.ref hl9, .ref ht, .int (nI L), .ref (ad u), .int (nI q)])), (hl9, .inr (0, [.ref hc, .int (nI c9_5), .ref hst])), (hc, .inl (cI, 60, .inl C9_6)), (ht, .inl (cI, 60, .inl TB))] := hD
    refine lv_goto (tgt := 23) hx hb dX1_readPart_15 (by decide) ?_
    exact hret hP hD hS dX1_readPart_23 nar_bI (by exact ⟨_, _, hq9_7, hx9_8, rfl, rfl⟩)
set_option maxHeartbeats 4000000 in
set_option maxRecDepth 100000 in
theorem c_X1_readLevel_0_0 (l : Launch) (D : va_G) (cI cJ : ClassId) (ad : Nat → Nat) (bd : Nat → Nat) (h : Nat) (hl9 : Nat) (ht : Nat) (hc : Nat) (hst : Nat) (L : Nat) (u : Nat) (T : Nat → Nat) (TB : Nat → Int32) (p : Nat) (c : Nat) (C : Nat → Int32) (b : Bool) (q : Nat) (tl : zTks) (hL : L ≤ 60) (hu1 : u ≤ 1) (hT : ∀ i, i < L → T i < 256) (htb : ∀ i, i < L → TB i = nI (T i)) (hp : p ≤ L) (hcp : c ≤ p) (hR : zLS T L (zQ T L u 5) 5 p = (b, q, tl)) : zTi ad bd l yX1_readLevel wsX1_readLevel ({ frames := 69, cells := 0, slots := 0, locals := 1614 } : Room) D [(cI, .int), (cJ, .array .int)] [.ref h, .int (nI 0), .int (nI 0)] [(h, .inr (1, [.ref hl9, .ref ht, .int (nI L), .ref (ad u), .int (nI p)])), (hl9, .inr (0, [.ref hc, .int (nI c), .ref hst])), (hc, .inl (cI, 60, .inl C)), (ht, .inl (cI, 60, .inl TB))] (fun r w => ∃ (c9 : Nat) (C9 : Nat → Int32), c9 ≤ q ∧ (b = true → c9 = c + tl.length ∧ C9 = zapp C c tl) ∧ r = bI (b = true) ∧ w = [(h, .inr (1, [.ref hl9, .ref ht, .int (nI L), .ref (ad u), .int (nI q)])), (hl9, .inr (0, [.ref hc, .int (nI c9), .ref hst])), (hc, .inl (cI, 60, .inl C9)), (ht, .inl (cI, 60, .inl TB))]) := by
  refine zTi.start (cc := cX1_readLevel) (maxL := 6) (rt := .boolean) (by first | decide | decide +kernel) rfl (Nat.le_of_ble_eq_true rfl) ?_
  intro pg ev s mt args below meth cd ls AA QQ ⟨hx, hb, hml, hr, hlocks, hown, hts, hK, hN, hZ, hP, hD, hA, hS, hl⟩ hG hret
  have hown : s.vm.findClass RX1 = some mt.cls := hown
  have hl : lv_has ls 6 [(0, .ref h), (1, .int (nI 0)), (2, .int (nI 0))] := hl
  have hin0 : ∀ w ∈ wsX00, w ∈ wsX1_readLevel := fun w h => List.mem_cons_of_mem _ (List.mem_append_right _ (h))
  have hin1 : ∀ w ∈ wsX10, w ∈ wsX1_readLevel := fun w h => List.mem_cons_of_mem _ (List.mem_append_left _ (List.mem_append_right _ (h)))
  have hR : zLv T L 0 (zLS T L (zQ T L u 5) 4) p = (b, q, tl) := hR
  obtain ⟨b1, q1, t1, hR1⟩ : ∃ (b0 : Bool) (q0 : Nat) (t0 : zTks), zLS T L (zQ T L u 5) 4 p = (b0, q0, t0) := ⟨_, _, _, rfl⟩
  have hg1 := (zLS_gd (T := T) (zQ_gd (T := T) (L := L) (u := u) 5) 4) p (by omega)
  rw [hR1] at hg1
  obtain ⟨hga1, hgb1, hgc1⟩ : p ≤ q1 ∧ q1 ≤ L ∧ (b1 = true → p < q1 ∧ t1.length ≤ q1 - p ∧ zw1 t1) := hg1
  refine lv_aload_n hx hb dX1_readLevel_0 rfl (lv_at hl 0 rfl) ?_
  refine lv_iload_n hx hb dX1_readLevel_1 rfl (lv_at hl 1 rfl) ?_
  refine lv_iload_n hx hb dX1_readLevel_2 rfl (lv_at hl 2 rfl) ?_
  refine zci (wr := []) (va_runV (As := [.int (nI 0), .int (nI 0)]) (rest := []) ⟨hx, hb, hml, hown, hts⟩ (c_X1_readPart_0_0 l D cI cJ ad bd h hl9 ht hc hst L u T TB p c C b1 q1 t1 (by first | rfl | assumption | omega) (by first | rfl | assumption | omega) (by first | rfl | assumption | omega) (by first | rfl | assumption | omega) (by first | rfl | assumption | omega) (by first | rfl | assumption | omega) hR1 s.heap.size) (cwV 2 hts gX1_readLevel_X1_readPart rfl rfl rfl (by decide +kernel) ⟨Nat.le_of_ble_eq_true rfl, Nat.le_of_ble_eq_true rfl⟩) (zpVs hG hK hN hZ hP hD hS hA [0, 1, 2, 3] rfl (by decide) 0 rfl rfl rfl) rfl rfl hl.1 rfl (lv_room (Nat.le_of_ble_eq_true rfl)) dX1_readLevel_3 ⟨Nat.zero_le _, Nat.zero_le _⟩) hP hD hS hA [0, 1, 2, 3] [] rfl rfl (by decide) (by decide) (fun r_3 w_2 H locs h_1 hP hD hS => ?_)
  obtain ⟨c9_4, C9_5, hq9_6, hx9_7, rfl, rfl⟩ := h_1
  have hP : va_P D vwCl [(h, .inr (1, [.ref hl9, .ref ht, .int (nI L), .ref (ad u), .int (nI q1)])), (hl9, .inr (0, [.ref hc, .int (nI c9_4), .ref hst])), (hc, .inl (cI, 60, .inl C9_5)), (ht, .inl (cI, 60, .inl TB))] H := hP
  have hD : va_D AA [(h, .inr (1, [.ref hl9, .ref ht, .int (nI L), .ref (ad u), .int (nI q1)])), (hl9, .inr (0, [.ref hc, .int (nI c9_4), .ref hst])), (hc, .inl (cI, 60, .inl C9_5)), (ht, .inl (cI, 60, .inl TB))] := hD
  refine lv_if_ne (tgt := 11) hx hb dX1_readLevel_6 (by decide) (fun c6_8 => ?_) (fun c6_8 => ?_)
  · have c6_8 := bI_n0.mp c6_8
    obtain ⟨hgd1, hge1, hgf1⟩ := hgc1 c6_8
    obtain ⟨he1, hE1⟩ := hx9_7 c6_8
    subst he1; subst hE1
    have hz := zLv_tt hR hR1 c6_8
    refine lv_iload_n hx hb dX1_readLevel_11 rfl (lv_at hl 1 rfl) ?_
    refine lv_iconst (v := nI 2) hx hb dX1_readLevel_12 (by decide) ?_
    refine lv_icmp_ne (tgt := 20) hx hb dX1_readLevel_13 (by decide) (fun c13_9 => ?_) (fun c13_9 => ?_)
    · have c13_9 : ¬ (0 = 2) := fun h9 => c13_9 ((nI_eq (a := 0) (b := 2) (by omega) (by omega)).mpr h9)
      refine lv_bipush (v := nI 60) hx hb dX1_readLevel_20 (by decide) ?_
      refine lv_istore_n (lv' := [(3, .int (nI 60)), (0, .ref h), (1, .int (nI 0)), (2, .int (nI 0))]) hx hb dX1_readLevel_22 rfl hl (by decide) rfl (fun ls hl => ?_)
      refine lv_iconst (v := nI 0) hx hb dX1_readLevel_23 (by decide) ?_
      refine lv_istore (lv' := [(4, .int (nI 0)), (3, .int (nI 60)), (0, .ref h), (1, .int (nI 0)), (2, .int (nI 0))]) hx hb dX1_readLevel_24 hl (by decide) rfl (fun ls hl => ?_)
      have L_26 : ∀ (fu : Nat) (f : Nat) (pv : Nat) (ta : zTks) (i : Nat) (hn : f < fu) (hz : zct ta (zLp T L 0 (zLS T L (zQ T L u 5) 4) f pv) = (b, q, tl)) (hf : L - pv < f) (hpv : pv ≤ L) (hca : c + ta.length ≤ pv) (hi1 : i + 1 ≤ pv), ∀ (ls : Array Slot), lv_has ls 6 [(0, .ref h), (1, .int (nI 0)), (2, .int (nI 0)), (3, .int (nI 60)), (4, .int (nI i))] → ∀ (H : Heap) (locs : List Loc), va_P D vwCl [(h, .inr (1, [.ref hl9, .ref ht, .int (nI L), .ref (ad u), .int (nI pv)])), (hl9, .inr (0, [.ref hc, .int (nI ((c + ta.length))), .ref hst])), (hc, .inl (cI, 60, .inl (zapp C c ta))), (ht, .inl (cI, 60, .inl TB))] H → va_D AA [(h, .inr (1, [.ref hl9, .ref ht, .int (nI L), .ref (ad u), .int (nI pv)])), (hl9, .inr (0, [.ref hc, .int (nI ((c + ta.length))), .ref hst])), (hc, .inl (cI, 60, .inl (zapp C c ta))), (ht, .inl (cI, 60, .inl TB))] → va_S AA s.heap H locs → W pg l ev ({ frames := 69, cells := 0, slots := 0, locals := 1614 } : Room) s mt args below meth cd H locs 0 0 QQ (F0 mt 26 ls []) := by
        intro fu
        induction fu with
        | zero =>
          intro  f pv ta i  hn
          exact absurd hn (by omega)
        | succ fu ih_26 =>
          intro  f pv ta i  hn hz hf hpv hca hi1 ls hl H locs hP hD hS
          obtain ⟨f1, rfl⟩ : ∃ f1, f = f1 + 1 := ⟨f - 1, by omega⟩
          refine lv_iload hx hb dX1_readLevel_26 (lv_at hl 4 rfl) ?_
          refine lv_iload_n hx hb dX1_readLevel_28 rfl (lv_at hl 3 rfl) ?_
          refine lv_icmp_ge (tgt := 107) hx hb dX1_readLevel_29 (by decide) (fun c29_10 => ?_) (fun c29_10 => ?_)
          · have c29_10 : 60 ≤ i := (nI_leI (a := 60) (b := i) (by omega) (by omega)).mp c29_10
            exact absurd c29_10 (by omega)
          · have c29_10 : ¬ (60 ≤ i) := fun h9 => c29_10 ((nI_leI (a := 60) (b := i) (by omega) (by omega)).mpr h9)
            refine lv_aload_n hx hb dX1_readLevel_32 rfl (lv_at hl 0 rfl) ?_
            refine va_get (ci := 1) (v := .int (nI pv)) (C := RX1) (T := TX1) (N := 5) hx hb hts hin1 hown hK hP 0 rfl rfl 4 (by decide) (hts (.fieldLink RX1 32 "UpAllRound$Reader" "place" "I") (List.mem_of_getElem? (i := 1) rfl)) (fun _ h9 => h9) rfl dX1_readLevel_33 ?_
            refine lv_aload_n hx hb dX1_readLevel_36 rfl (lv_at hl 0 rfl) ?_
            refine va_get (ci := 1) (v := .int (nI L)) (C := RX1) (T := TX1) (N := 5) hx hb hts hin1 hown hK hP 0 rfl rfl 2 (by decide) (hts (.fieldLink RX1 22 "UpAllRound$Reader" "length" "I") (List.mem_of_getElem? (i := 2) rfl)) (fun _ h9 => h9) rfl dX1_readLevel_37 ?_
            refine lv_icmp_ge (tgt := 107) hx hb dX1_readLevel_40 (by decide) (fun c40_11 => ?_) (fun c40_11 => ?_)
            · have c40_11 : L ≤ pv := (nI_leI (a := L) (b := pv) (by omega) (by omega)).mp c40_11
              refine lv_iconst (v := nI 1) hx hb dX1_readLevel_107 (by decide) ?_
              exact hret hP hD hS dX1_readLevel_108 rfl (by obtain ⟨e1, e2, e3⟩ := zLe (f := f1) hz (by omega); subst e1; subst e2; subst e3; exact ⟨_, _, by omega, fun _ => ⟨rfl, rfl⟩, (bI_t rfl).symm, rfl⟩)
            · have c40_11 : ¬ (L ≤ pv) := fun h9 => c40_11 ((nI_leI (a := L) (b := pv) (by omega) (by omega)).mpr h9)
              refine lv_aload_n hx hb dX1_readLevel_43 rfl (lv_at hl 0 rfl) ?_
              refine va_get (ci := 1) (v := .ref ht) (C := RX1) (T := TX1) (N := 5) hx hb hts hin1 hown hK hP 0 rfl rfl 1 (by decide) (hts (.fieldLink RX1 18 "UpAllRound$Reader" "tape" "[I") (List.mem_of_getElem? (i := 3) rfl)) (fun _ h9 => h9) rfl dX1_readLevel_44 ?_
              refine lv_aload_n hx hb dX1_readLevel_47 rfl (lv_at hl 0 rfl) ?_
              refine va_get (ci := 1) (v := .int (nI pv)) (C := RX1) (T := TX1) (N := 5) hx hb hts hin1 hown hK hP 0 rfl rfl 4 (by decide) (hts (.fieldLink RX1 32 "UpAllRound$Reader" "place" "I") (List.mem_of_getElem? (i := 1) rfl)) (fun _ h9 => h9) rfl dX1_readLevel_48 ?_
              refine zald (t := pv) hx hb hK hP 3 rfl (by omega) (by decide) dX1_readLevel_51 ?_
              refine zrw (htb pv (by omega)) ?_
              refine zcsE (va_runS (As := [.int (nI (T pv))]) (rest := []) ⟨hx, hb, hml, hown, hts⟩ (c_X1_levelOf l D cI cJ (T pv) (hT pv (by omega)) H.size) (va_cwS 1 hts gX1_readLevel_X1_levelOf rfl rfl rfl (by decide +kernel) ⟨Nat.le_of_ble_eq_true rfl, Nat.le_of_ble_eq_true rfl⟩) (zpS hK hN hZ hP hD hS hA [] rfl (by decide)) rfl rfl hl.1 rfl (lv_room (Nat.le_of_ble_eq_true rfl)) dX1_readLevel_52 ⟨Nat.zero_le _, Nat.zero_le _⟩) ?_
              refine lv_iload_n hx hb dX1_readLevel_55 rfl (lv_at hl 1 rfl) ?_
              refine lv_icmp_ne (tgt := 107) hx hb dX1_readLevel_56 (by decide) (fun c56_12 => ?_) (fun c56_12 => ?_)
              · have c56_12 : ¬ (((zlv (T pv))) = 0) := fun h9 => c56_12 ((nI_eq (a := (zlv (T pv))) (b := 0) (by have h91 := zlv_le (T pv); omega) (by have h91 := zlv_le (T pv); omega)).mpr h9)
                refine lv_iconst (v := nI 1) hx hb dX1_readLevel_107 (by decide) ?_
                exact hret hP hD hS dX1_readLevel_108 rfl (by obtain ⟨e1, e2, e3⟩ := zLe (f := f1) hz (by omega); subst e1; subst e2; subst e3; exact ⟨_, _, by omega, fun _ => ⟨rfl, rfl⟩, (bI_t rfl).symm, rfl⟩)
              · have c56_12 : ((zlv (T pv))) = 0 := (nI_eq (a := (zlv (T pv))) (b := 0) (by have h91 := zlv_le (T pv); omega) (by have h91 := zlv_le (T pv); omega)).mp c56_12
                refine lv_aload_n hx hb dX1_readLevel_59 rfl (lv_at hl 0 rfl) ?_
                refine va_get (ci := 1) (v := .ref ht) (C := RX1) (T := TX1) (N := 5) hx hb hts hin1 hown hK hP 0 rfl rfl 1 (by decide) (hts (.fieldLink RX1 18 "UpAllRound$Reader" "tape" "[I") (List.mem_of_getElem? (i := 3) rfl)) (fun _ h9 => h9) rfl dX1_readLevel_60 ?_
                refine lv_aload_n hx hb dX1_readLevel_63 rfl (lv_at hl 0 rfl) ?_
                refine va_get (ci := 1) (v := .int (nI pv)) (C := RX1) (T := TX1) (N := 5) hx hb hts hin1 hown hK hP 0 rfl rfl 4 (by decide) (hts (.fieldLink RX1 32 "UpAllRound$Reader" "place" "I") (List.mem_of_getElem? (i := 1) rfl)) (fun _ h9 => h9) rfl dX1_readLevel_64 ?_
                refine zald (t := pv) hx hb hK hP 3 rfl (by omega) (by decide) dX1_readLevel_67 ?_
                refine zrw (htb pv (by omega)) ?_
                refine lv_istore (lv' := [(5, .int (nI (T pv))), (0, .ref h), (1, .int (nI 0)), (2, .int (nI 0)), (3, .int (nI 60)), (4, .int (nI i))]) hx hb dX1_readLevel_68 hl (by decide) rfl (fun ls hl => ?_)
                refine lv_aload_n hx hb dX1_readLevel_70 rfl (lv_at hl 1 rfl) ?_
                refine lv_dup hx hb dX1_readLevel_71 rfl ?_
                refine va_get (ci := 1) (v := .int (nI pv)) (C := RX1) (T := TX1) (N := 5) hx hb hts hin1 hown hK hP 0 rfl rfl 4 (by decide) (hts (.fieldLink RX1 32 "UpAllRound$Reader" "place" "I") (List.mem_of_getElem? (i := 1) rfl)) (fun _ h9 => h9) rfl dX1_readLevel_72 ?_
                refine lv_iconst (v := nI 1) hx hb dX1_readLevel_75 (by decide) ?_
                refine lv_iadd hx hb dX1_readLevel_76 ?_
                refine zrw (nI_add _ _) ?_
                refine va_put (ci := 1) (v := .int (nI (pv + 1))) (ty := .int) (C := RX1) (T := TX1) (N := 5) hx hb hts hin1 tyX1 tyX1_ok nmX1 hown hK hP hD hS 0 rfl rfl 4 (by decide) (hts (.fieldLink RX1 32 "UpAllRound$Reader" "place" "I") (List.mem_of_getElem? (i := 1) rfl)) (fun _ h9 => h9) rfl (by decide +kernel) rfl rfl (Nat.le_of_ble_eq_true rfl) dX1_readLevel_77 (fun H locs hP hD hS => ?_)
                have hP : va_P D vwCl [(h, .inr (1, [.ref hl9, .ref ht, .int (nI L), .ref (ad u), .int (nI (pv + 1))])), (hl9, .inr (0, [.ref hc, .int (nI ((c + ta.length))), .ref hst])), (hc, .inl (cI, 60, .inl (zapp C c ta))), (ht, .inl (cI, 60, .inl TB))] H := hP
                have hD : va_D AA [(h, .inr (1, [.ref hl9, .ref ht, .int (nI L), .ref (ad u), .int (nI (pv + 1))])), (hl9, .inr (0, [.ref hc, .int (nI ((c + ta.length))), .ref hst])), (hc, .inl (cI, 60, .inl (zapp C c ta))), (ht, .inl (cI, 60, .inl TB))] := hD
                obtain ⟨b2, q2, t2, hR2⟩ : ∃ (b0 : Bool) (q0 : Nat) (t0 : zTks), zLS T L (zQ T L u 5) 4 (pv + 1) = (b0, q0, t0) := ⟨_, _, _, rfl⟩
                have hg2 := (zLS_gd (T := T) (zQ_gd (T := T) (L := L) (u := u) 5) 4) (pv + 1) (by omega)
                rw [hR2] at hg2
                obtain ⟨hga2, hgb2, hgc2⟩ : (pv + 1) ≤ q2 ∧ q2 ≤ L ∧ (b2 = true → (pv + 1) < q2 ∧ t2.length ≤ q2 - (pv + 1) ∧ zw1 t2) := hg2
                refine lv_aload_n hx hb dX1_readLevel_80 rfl (lv_at hl 1 rfl) ?_
                refine lv_iload_n hx hb dX1_readLevel_81 rfl (lv_at hl 2 rfl) ?_
                refine lv_iload_n hx hb dX1_readLevel_82 rfl (lv_at hl 3 rfl) ?_
                refine zci (wr := []) (va_runV (As := [.int (nI 0), .int (nI 0)]) (rest := []) ⟨hx, hb, hml, hown, hts⟩ (c_X1_readPart_0_0 l D cI cJ ad bd h hl9 ht hc hst L u T TB (pv + 1) ((c + ta.length)) (zapp C c ta) b2 q2 t2 (by first | rfl | assumption | omega) (by first | rfl | assumption | omega) (by first | rfl | assumption | omega) (by first | rfl | assumption | omega) (by omega) (by omega) hR2 H.size) (cwV 2 hts gX1_readLevel_X1_readPart rfl rfl rfl (by decide +kernel) ⟨Nat.le_of_ble_eq_true rfl, Nat.le_of_ble_eq_true rfl⟩) (zpVs hG hK hN hZ hP hD hS hA [0, 1, 2, 3] rfl (by decide) 0 rfl rfl rfl) rfl rfl hl.1 rfl (lv_room (Nat.le_of_ble_eq_true rfl)) dX1_readLevel_83 ⟨Nat.zero_le _, Nat.zero_le _⟩) hP hD hS hA [0, 1, 2, 3] [] rfl rfl (by decide) (by decide) (fun r_15 w_14 H locs h_13 hP hD hS => ?_)
                obtain ⟨c9_16, C9_17, hq9_18, hx9_19, rfl, rfl⟩ := h_13
                have hP : va_P D vwCl [(h, .inr (1, [.ref hl9, .ref ht, .int (nI L), .ref (ad u), .int (nI q2)])), (hl9, .inr (0, [.ref hc, .int (nI c9_16), .ref hst])), (hc, .inl (cI, 60, .inl C9_17)), (ht, .inl (cI, 60, .inl TB))] H := hP
                have hD : va_D AA [(h, .inr (1, [.ref hl9, .ref ht, .int (nI L), .ref (ad u), .int (nI q2)])), (hl9, .inr (0, [.ref hc, .int (nI c9_16), .ref hst])), (hc, .inl (cI, 60, .inl C9_17)), (ht, .inl (cI, 60, .inl TB))] := hD
                refine lv_if_ne (tgt := 91) hx hb dX1_readLevel_86 (by decide) (fun c86_20 => ?_) (fun c86_20 => ?_)
                · have c86_20 := bI_n0.mp c86_20
                  obtain ⟨hgd2, hge2, hgf2⟩ := hgc2 c86_20
                  obtain ⟨he2, hE2⟩ := hx9_19 c86_20
                  subst he2; subst hE2
                  refine lv_aload_n hx hb dX1_readLevel_91 rfl (lv_at hl 1 rfl) ?_
                  refine va_get (ci := 1) (v := .ref hl9) (C := RX1) (T := TX1) (N := 5) hx hb hts hin1 hown hK hP 0 rfl rfl 0 (by decide) (hts (.fieldLink RX1 12 "UpAllRound$Reader" "law" "LUpAllRound$Law;") (List.mem_of_getElem? (i := 4) rfl)) (fun _ h9 => h9) rfl dX1_readLevel_92 ?_
                  refine lv_iload hx hb dX1_readLevel_95 (lv_at hl 0 rfl) ?_
                  refine lv_ineg hx hb dX1_readLevel_97 ?_
                  refine zcv (wr := [(h, .inr (1, [.ref hl9, .ref ht, .int (nI L), .ref (ad u), .int (nI q2)])), (ht, .inl (cI, 60, .inl TB))]) (va_runVN (As := [.int (-(nI (T pv)))]) (rest := []) ⟨hx, hb, hml, hown, hts⟩ (c_X0_add l D cI cJ hl9 hc hst ((c + ta.length + t2.length)) (zapp (zapp C c ta) (c + ta.length) t2) (-(nI (T pv))) (by omega) H.size) ⟨va_cnB 1 hts gX1_readLevel_X0_add_n61 rfl rfl rfl (hN (.methodLinkNest "UpAllRound$Reader" 61 yX0_add "UpAllRound") (List.mem_of_getElem? (i := 38) rfl)) (hts (.initialized RX0) (List.mem_of_getElem? (i := 13) rfl)) (by decide +kernel) ⟨Nat.le_of_ble_eq_true rfl, Nat.le_of_ble_eq_true rfl⟩, (hts (.instanceMethod yX0_add) (List.mem_of_getElem? (i := 12) rfl)), (hts (.selects RX0 yX0_add yX0_add) (List.mem_of_getElem? (i := 14) rfl))⟩ (zpV hK hN hZ hP hD hS hA [1, 2] rfl (by decide) 1 rfl rfl rfl) rfl rfl hl.1 rfl (lv_room (Nat.le_of_ble_eq_true rfl)) dX1_readLevel_98 ⟨Nat.zero_le _, Nat.zero_le _⟩) hP hD hS hA [1, 2] [0, 3] rfl rfl (by decide) (by decide) (fun w_22 H locs h_21 hP hD hS => ?_)
                  obtain rfl := h_21
                  have hP : va_P D vwCl [(h, .inr (1, [.ref hl9, .ref ht, .int (nI L), .ref (ad u), .int (nI q2)])), (ht, .inl (cI, 60, .inl TB)), (hl9, .inr (0, [.ref hc, .int (nI (((c + ta.length + t2.length)) + 1)), .ref hst])), (hc, .inl (cI, 60, .inl (upd (zapp (zapp C c ta) (c + ta.length) t2) ((c + ta.length + t2.length)) (-(nI (T pv))))))] H := hP
                  have hD : va_D AA [(h, .inr (1, [.ref hl9, .ref ht, .int (nI L), .ref (ad u), .int (nI q2)])), (ht, .inl (cI, 60, .inl TB)), (hl9, .inr (0, [.ref hc, .int (nI (((c + ta.length + t2.length)) + 1)), .ref hst])), (hc, .inl (cI, 60, .inl (upd (zapp (zapp C c ta) (c + ta.length) t2) ((c + ta.length + t2.length)) (-(nI (T pv))))))] := hD
                  refine lv_iinc (v := nI (i + 1)) (lv' := [(4, .int (nI (i + 1))), (5, .int (nI (T pv))), (0, .ref h), (1, .int (nI 0)), (2, .int (nI 0)), (3, .int (nI 60))]) hx hb dX1_readLevel_101 hl (k := 5) rfl (nI_add _ _) (by decide) rfl (fun ls hl => ?_)
                  refine lv_goto (tgt := 26) hx hb dX1_readLevel_104 (by decide) ?_
                  rw [show -(nI (T pv)) = zcode (3, T pv) from rfl, zapp1, zlen1 (t := (3, T pv))] at hP hD
                  exact ih_26   f1 q2 ((ta ++ (t2 ++ [(3, T pv)]))) ((i + 1)) (by omega) (zLt (by decide) hz ⟨by omega, by omega⟩ hR2 (by assumption)) (by omega) (by omega) (by rw [← zlen1]; omega) (by omega) ls (lv_sub hl [2, 3, 4, 5, 0] rfl) H locs (hP.sub [0, 2, 3, 1] rfl) (hD.sub [0, 2, 3, 1] (by decide) rfl) hS
                · have c86_20 := bI_0.mp c86_20
                  refine lv_iconst (v := nI 0) hx hb dX1_readLevel_89 (by decide) ?_
                  exact hret hP hD hS dX1_readLevel_90 rfl (by obtain ⟨e1, e2⟩ := zLf hz ⟨by omega, by omega⟩ hR2 (by assumption); subst e1; subst e2; exact ⟨_, _, hq9_18, fun h9 => (by cases h9), (bI_f (by decide)).symm, rfl⟩)
      exact L_26 62  61 q1 t1 0 (by omega) hz (by omega) (by omega) (by omega) (by omega) ls (lv_sub hl [2, 3, 4, 1, 0] rfl) _ _ hP hD hS
    · have c13_9 : 0 = 2 := (nI_eq (a := 0) (b := 2) (by omega) (by omega)).mp c13_9
      exact absurd c13_9 (by omega)
  · have c6_8 := bI_0.mp c6_8
    refine lv_iconst (v := nI 0) hx hb dX1_readLevel_9 (by decide) ?_
    exact hret hP hD hS dX1_readLevel_10 rfl (by obtain ⟨e1, e2⟩ := zLv_ff hR hR1 (by assumption); subst e1; subst e2; exact ⟨_, _, hq9_6, fun h9 => (by cases h9), (bI_f (by decide)).symm, rfl⟩)
set_option maxHeartbeats 4000000 in
set_option maxRecDepth 100000 in
theorem c_X1_readNot_0 (l : Launch) (D : va_G) (cI cJ : ClassId) (ad : Nat → Nat) (bd : Nat → Nat) (h : Nat) (hl9 : Nat) (ht : Nat) (hc : Nat) (hst : Nat) (L : Nat) (u : Nat) (T : Nat → Nat) (TB : Nat → Int32) (p : Nat) (c : Nat) (C : Nat → Int32) (b : Bool) (q : Nat) (tl : zTks) (hL : L ≤ 60) (hu1 : u ≤ 1) (hT : ∀ i, i < L → T i < 256) (htb : ∀ i, i < L → TB i = nI (T i)) (hp : p ≤ L) (hcp : c + 1 ≤ p) (hR : zQ T L u 5 p = (b, q, tl)) : zTi ad bd l yX1_readNot wsX1_readNot ({ frames := 60, cells := 0, slots := 0, locals := 1404 } : Room) D [(cI, .int), (cJ, .array .int)] [.ref h, .int (nI 0)] [(h, .inr (1, [.ref hl9, .ref ht, .int (nI L), .ref (ad u), .int (nI p)])), (hl9, .inr (0, [.ref hc, .int (nI c), .ref hst])), (hc, .inl (cI, 60, .inl C)), (ht, .inl (cI, 60, .inl TB))] (fun r w => ∃ (c9 : Nat) (C9 : Nat → Int32), c9 ≤ q ∧ (b = true → c9 = c + (tl ++ [(2, 0)]).length ∧ C9 = zapp C c (tl ++ [(2, 0)])) ∧ r = bI (b = true) ∧ w = [(h, .inr (1, [.ref hl9, .ref ht, .int (nI L), .ref (ad u), .int (nI q)])), (hl9, .inr (0, [.ref hc, .int (nI c9), .ref hst])), (hc, .inl (cI, 60, .inl C9)), (ht, .inl (cI, 60, .inl TB))]) := by
  refine zTi.start (cc := cX1_readNot) (maxL := 2) (rt := .boolean) (by first | decide | decide +kernel) rfl (Nat.le_of_ble_eq_true rfl) ?_
  intro pg ev s mt args below meth cd ls AA QQ ⟨hx, hb, hml, hr, hlocks, hown, hts, hK, hN, hZ, hP, hD, hA, hS, hl⟩ hG hret
  have hown : s.vm.findClass RX1 = some mt.cls := hown
  have hl : lv_has ls 2 [(0, .ref h), (1, .int (nI 0))] := hl
  have hin0 : ∀ w ∈ wsX00, w ∈ wsX1_readNot := fun w h => List.mem_cons_of_mem _ (List.mem_append_right _ (h))
  have hin1 : ∀ w ∈ wsX10, w ∈ wsX1_readNot := fun w h => List.mem_cons_of_mem _ (List.mem_append_left _ (List.mem_append_right _ (h)))
  refine lv_aload_n hx hb dX1_readNot_0 rfl (lv_at hl 0 rfl) ?_
  have hg1 := zQ_gd (T := T) (L := L) (u := u) 5 p hp
  rw [hR] at hg1
  obtain ⟨hga1, hgb1, hgc1⟩ : p ≤ q ∧ q ≤ L ∧ (b = true → p < q ∧ tl.length ≤ q - p ∧ zw1 tl) := hg1
  refine lv_iload_n hx hb dX1_readNot_1 rfl (lv_at hl 1 rfl) ?_
  refine zci (wr := []) (va_runV (As := [.int (nI 0)]) (rest := []) ⟨hx, hb, hml, hown, hts⟩ (c_X1_readQ_0 l D cI cJ ad bd h hl9 ht hc hst L u T TB p c C b q tl (by first | rfl | assumption | omega) (by first | rfl | assumption | omega) (by first | rfl | assumption | omega) (by first | rfl | assumption | omega) (by first | rfl | assumption | omega) (by omega) hR s.heap.size) (cwV 1 hts gX1_readNot_X1_readQ rfl rfl rfl (by decide +kernel) ⟨Nat.le_of_ble_eq_true rfl, Nat.le_of_ble_eq_true rfl⟩) (zpVs hG hK hN hZ hP hD hS hA [0, 1, 2, 3] rfl (by decide) 0 rfl rfl rfl) rfl rfl hl.1 rfl (lv_room (Nat.le_of_ble_eq_true rfl)) dX1_readNot_2 ⟨Nat.zero_le _, Nat.zero_le _⟩) hP hD hS hA [0, 1, 2, 3] [] rfl rfl (by decide) (by decide) (fun r_3 w_2 H locs h_1 hP hD hS => ?_)
  obtain ⟨c9_4, C9_5, hq9_6, hx9_7, rfl, rfl⟩ := h_1
  have hP : va_P D vwCl [(h, .inr (1, [.ref hl9, .ref ht, .int (nI L), .ref (ad u), .int (nI q)])), (hl9, .inr (0, [.ref hc, .int (nI c9_4), .ref hst])), (hc, .inl (cI, 60, .inl C9_5)), (ht, .inl (cI, 60, .inl TB))] H := hP
  have hD : va_D AA [(h, .inr (1, [.ref hl9, .ref ht, .int (nI L), .ref (ad u), .int (nI q)])), (hl9, .inr (0, [.ref hc, .int (nI c9_4), .ref hst])), (hc, .inl (cI, 60, .inl C9_5)), (ht, .inl (cI, 60, .inl TB))] := hD
  refine lv_if_ne (tgt := 10) hx hb dX1_readNot_5 (by decide) (fun c5_8 => ?_) (fun c5_8 => ?_)
  · have c5_8 := bI_n0.mp c5_8
    obtain ⟨hgd1, hge1, hgf1⟩ := hgc1 c5_8
    obtain ⟨he1, hE1⟩ := hx9_7 c5_8
    subst he1; subst hE1
    refine lv_aload_n hx hb dX1_readNot_10 rfl (lv_at hl 0 rfl) ?_
    refine va_get (ci := 1) (v := .ref hl9) (C := RX1) (T := TX1) (N := 5) hx hb hts hin1 hown hK hP 0 rfl rfl 0 (by decide) (hts (.fieldLink RX1 12 "UpAllRound$Reader" "law" "LUpAllRound$Law;") (List.mem_of_getElem? (i := 1) rfl)) (fun _ h9 => h9) rfl dX1_readNot_11 ?_
    refine lv_bipush (v := (-33)) hx hb dX1_readNot_14 (by decide) ?_
    refine zcv (wr := [(h, .inr (1, [.ref hl9, .ref ht, .int (nI L), .ref (ad u), .int (nI q)])), (ht, .inl (cI, 60, .inl TB))]) (va_runVN (As := [.int ((-33))]) (rest := []) ⟨hx, hb, hml, hown, hts⟩ (c_X0_add l D cI cJ hl9 hc hst ((c + tl.length)) (zapp C c tl) ((-33)) (by omega) H.size) ⟨va_cnB 1 hts gX1_readNot_X0_add_n61 rfl rfl rfl (hN (.methodLinkNest "UpAllRound$Reader" 61 yX0_add "UpAllRound") (List.mem_of_getElem? (i := 38) rfl)) (hts (.initialized RX0) (List.mem_of_getElem? (i := 7) rfl)) (by decide +kernel) ⟨Nat.le_of_ble_eq_true rfl, Nat.le_of_ble_eq_true rfl⟩, (hts (.instanceMethod yX0_add) (List.mem_of_getElem? (i := 6) rfl)), (hts (.selects RX0 yX0_add yX0_add) (List.mem_of_getElem? (i := 8) rfl))⟩ (zpV hK hN hZ hP hD hS hA [1, 2] rfl (by decide) 1 rfl rfl rfl) rfl rfl hl.1 rfl (lv_room (Nat.le_of_ble_eq_true rfl)) dX1_readNot_16 ⟨Nat.zero_le _, Nat.zero_le _⟩) hP hD hS hA [1, 2] [0, 3] rfl rfl (by decide) (by decide) (fun w_10 H locs h_9 hP hD hS => ?_)
    obtain rfl := h_9
    have hP : va_P D vwCl [(h, .inr (1, [.ref hl9, .ref ht, .int (nI L), .ref (ad u), .int (nI q)])), (ht, .inl (cI, 60, .inl TB)), (hl9, .inr (0, [.ref hc, .int (nI (((c + tl.length)) + 1)), .ref hst])), (hc, .inl (cI, 60, .inl (upd (zapp C c tl) ((c + tl.length)) ((-33)))))] H := hP
    have hD : va_D AA [(h, .inr (1, [.ref hl9, .ref ht, .int (nI L), .ref (ad u), .int (nI q)])), (ht, .inl (cI, 60, .inl TB)), (hl9, .inr (0, [.ref hc, .int (nI (((c + tl.length)) + 1)), .ref hst])), (hc, .inl (cI, 60, .inl (upd (zapp C c tl) ((c + tl.length)) ((-33)))))] := hD
    refine lv_iconst (v := nI 1) hx hb dX1_readNot_19 (by decide) ?_
    have hP := hP.sub (ws' := [(h, .inr (1, [.ref hl9, .ref ht, .int (nI L), .ref (ad u), .int (nI q)])), (hl9, .inr (0, [.ref hc, .int (nI (((c + tl.length)) + 1)), .ref hst])), (hc, .inl (cI, 60, .inl (upd (zapp C c tl) ((c + tl.length)) ((-33))))), (ht, .inl (cI, 60, .inl TB))]) [0, 2, 3, 1] rfl
    have hD := hD.sub (ws' := [(h, .inr (1, [.ref hl9, .ref ht, .int (nI L), .ref (ad u), .int (nI q)])), (hl9, .inr (0, [.ref hc, .int (nI (((c + tl.length)) + 1)), .ref hst])), (hc, .inl (cI, 60, .inl (upd (zapp C c tl) ((c + tl.length)) ((-33))))), (ht, .inl (cI, 60, .inl TB))]) [0, 2, 3, 1] (by decide) rfl
    exact hret hP hD hS dX1_readNot_20 rfl (by exact ⟨_, _, show c + tl.length + 1 ≤ q from (by omega), fun _ => ⟨(by rw [List.length_append] <;> rfl), zapp0⟩, (bI_t (by assumption)).symm, rfl⟩)
  · have c5_8 := bI_0.mp c5_8
    refine lv_iconst (v := nI 0) hx hb dX1_readNot_8 (by decide) ?_
    exact hret hP hD hS dX1_readNot_9 rfl (by exact ⟨_, _, hq9_6, fun h9 => absurd h9 (by assumption), (bI_f (by assumption)).symm, rfl⟩)
