set_option maxHeartbeats 4000000 in
set_option maxRecDepth 100000 in
theorem c_X6_one_2 (l : Launch) (D : va_G) (cI cJ : ClassId) (h : Nat) (m0 : Nat) (m1 : Nat) (m2 : Nat) (m4 : Nat) (m9 : Nat) (m10 : Nat) (m11 : Nat) (m13 : Nat) (m16 : Nat) (m17 : Nat) (m18 : Nat) (m19 : Nat) (i3 : Int32) (tn : Nat) (sp : Nat) (pt : Nat) (S : Nat → Int32) (ST : Nat → Int32) (L : Nat) (u : Nat) (T : Nat → Nat) (p : Nat) (c : Nat) (b : Bool) (q : Nat) (tl : zTks) (hL : L ≤ 60) (hu1 : u ≤ 1) (hT : ∀ i, i < L → T i < 256) (htb : ∀ i, i < L → S (296 + i) = nI (T i)) (hS4 : S 4 = nI L) (hp : p ≤ L) (hcp : c ≤ p) (hR : zLS T L (zQ T L u 3) 0 p = (b, q, tl)) : zMi l yX6_one wsX6_one ({ frames := 19, cells := 0, slots := 0, locals := 400 } : Room) D [(cI, .int), (cJ, .array .int)] [.ref h] [(h, .inr (6, [.ref m0, .ref m1, .ref m2, .int i3, .ref m4, .int (nI p), .int (nI 2), .int (nI c), .int (nI u), .ref m9, .ref m10, .ref m11, .int (nI tn), .ref m13, .int (nI sp), .int (nI pt), .ref m16, .ref m17, .ref m18, .ref m19])), (m0, .inl (cI, 380, .inl S)), (m9, .inl (cI, 124, .inl ST))] (fun r w => ∃ (c9 o9 : Nat) (ST9 : Nat → Int32), c9 ≤ q ∧ (b = true → c9 = c + tl.length ∧ ST9 = zap2 u ST c tl ∧ o9 = 2) ∧ r = bI (b = true) ∧ w = [(h, .inr (6, [.ref m0, .ref m1, .ref m2, .int i3, .ref m4, .int (nI q), .int (nI o9), .int (nI c9), .int (nI u), .ref m9, .ref m10, .ref m11, .int (nI tn), .ref m13, .int (nI sp), .int (nI pt), .ref m16, .ref m17, .ref m18, .ref m19])), (m0, .inl (cI, 380, .inl S)), (m9, .inl (cI, 124, .inl ST9))]) := by
  refine zMi.start (cc := cX6_one) (maxL := 4) (rt := .boolean) (by first | decide | decide +kernel) rfl (Nat.le_of_ble_eq_true rfl) ?_
  intro pg ev s mt args below meth cd ls AA QQ ⟨hx, hb, hml, hr, hlocks, hown, hts, hK, hN, hZ, hP, hD, hA, hS, hl⟩ hret
  have hown : s.vm.findClass RX6 = some mt.cls := hown
  have hl : lv_has ls 4 [(0, .ref h)] := hl
  have hin6 : ∀ w ∈ wsX60, w ∈ wsX6_one := fun w h => List.mem_cons_of_mem _ (List.mem_append_right _ (h))
  have hR : zQb T L u true (zQ T L u 2) (zLS T L (zQ T L u 2) 5) p = (b, q, tl) := hR
  refine lv_aload_n hx hb dX6_one_0 rfl (lv_at hl 0 rfl) ?_
  by_cases hpL : p < L
  · refine zcsE (va_runV (As := []) (rest := []) ⟨hx, hb, hml, hown, hts⟩ (c_X6_look l D cI cJ h m0 m1 m2 m4 m9 m10 m11 m13 m16 m17 m18 m19 i3 tn sp pt S ST L u T p c 2 (by first | rfl | assumption | omega) (by first | rfl | assumption | omega) (by first | rfl | assumption | omega) (by first | rfl | assumption | omega) (by first | rfl | assumption | omega) (by omega) s.heap.size) (cwV 0 hts gX6_one_X6_look rfl rfl rfl (by decide +kernel) ⟨Nat.le_of_ble_eq_true rfl, Nat.le_of_ble_eq_true rfl⟩) (zpV hK hN hZ hP hD hS hA [0, 1] rfl (by decide) 0 rfl rfl rfl) rfl rfl hl.1 rfl (lv_room (Nat.le_of_ble_eq_true rfl)) dX6_one_1 ⟨Nat.zero_le _, Nat.zero_le _⟩) ?_
    refine zrw (if_pos hpL) ?_
    refine lv_istore_n (lv' := [(1, .int (nI (T p))), (0, .ref h)]) hx hb dX6_one_4 rfl hl (by decide) rfl (fun ls hl => ?_)
    refine lv_aload_n hx hb dX6_one_5 rfl (lv_at hl 1 rfl) ?_
    refine lv_iload_n hx hb dX6_one_6 rfl (lv_at hl 0 rfl) ?_
    refine zcsE (va_runV (As := [.int (nI (T p))]) (rest := []) ⟨hx, hb, hml, hown, hts⟩ (c_X6_isName l D cI cJ h m0 m1 m2 m4 m9 m10 m11 m13 m16 m17 m18 m19 i3 tn sp pt u p 2 c (T p) (by first | rfl | assumption | omega) (hT p (by omega)) s.heap.size) (cwV 1 hts gX6_one_X6_isName rfl rfl rfl (by decide +kernel) ⟨Nat.le_of_ble_eq_true rfl, Nat.le_of_ble_eq_true rfl⟩) (zpV hK hN hZ hP hD hS hA [0] rfl (by decide) 0 rfl rfl rfl) rfl rfl hl.1 rfl (lv_room (Nat.le_of_ble_eq_true rfl)) dX6_one_7 ⟨Nat.zero_le _, Nat.zero_le _⟩) ?_
    refine lv_if_eq (tgt := 31) hx hb dX6_one_10 (by decide) (fun c10_1 => ?_) (fun c10_1 => ?_)
    · have c10_1 := bI_nX0.mp c10_1
      have hnx : znx u (T p) = none := c10_1
      refine lv_iload_n hx hb dX6_one_31 rfl (lv_at hl 0 rfl) ?_
      refine lv_bipush (v := nI 48) hx hb dX6_one_32 (by decide) ?_
      refine lv_bipush (v := nI 57) hx hb dX6_one_34 (by decide) ?_
      refine zcsE (va_runS (As := [.int (nI (T p)), .int (nI 48), .int (nI 57)]) (rest := []) ⟨hx, hb, hml, hown, hts⟩ (d_X6_in l D cI cJ (nI (T p)) (nI 48) (nI 57) 48 57 (by decide) (by decide) s.heap.size) (va_cwS 3 hts gX6_one_X6_in rfl rfl rfl (by decide +kernel) ⟨Nat.le_of_ble_eq_true rfl, Nat.le_of_ble_eq_true rfl⟩) (zpS hK hN hZ hP hD hS hA [] rfl (by decide)) rfl rfl hl.1 rfl (lv_room (Nat.le_of_ble_eq_true rfl)) dX6_one_36 ⟨Nat.zero_le _, Nat.zero_le _⟩) ?_
      refine lv_if_eq (tgt := 102) hx hb dX6_one_39 (by decide) (fun c39_2 => ?_) (fun c39_2 => ?_)
      · have c39_2 := bI_0.mp c39_2
        have hdg0 : ¬ zdg (T p) := fun h9 => c39_2 ((zrg_dg (hT p (by omega))).mpr h9)
        refine lv_iload_n hx hb dX6_one_102 rfl (lv_at hl 0 rfl) ?_
        refine lv_bipush (v := nI 33) hx hb dX6_one_103 (by decide) ?_
        refine lv_icmp_ne (tgt := 142) hx hb dX6_one_105 (by decide) (fun c105_3 => ?_) (fun c105_3 => ?_)
        · have c105_3 : ¬ ((T p) = 33) := fun h9 => c105_3 ((nI_eq (a := T p) (b := 33) (by have h91 := hT p (by omega); omega) (by have h91 := hT p (by omega); omega)).mpr h9)
          refine lv_iload_n hx hb dX6_one_142 rfl (lv_at hl 0 rfl) ?_
          refine lv_bipush (v := nI 40) hx hb dX6_one_143 (by decide) ?_
          refine lv_icmp_ne (tgt := 171) hx hb dX6_one_145 (by decide) (fun c145_4 => ?_) (fun c145_4 => ?_)
          · have c145_4 : ¬ ((T p) = 40) := fun h9 => c145_4 ((nI_eq (a := T p) (b := 40) (by have h91 := hT p (by omega); omega) (by have h91 := hT p (by omega); omega)).mpr h9)
            refine lv_iconst (v := nI 0) hx hb dX6_one_171 (by decide) ?_
            exact hret hP hD hS dX6_one_172 rfl (by obtain ⟨e1, e2⟩ := zq_z hR (by omega) hdg0 hnx (fun h9 => by have h91 := h9.1; omega) (fun h9 => by have h91 := h9.1; omega); subst e1; subst e2; exact ⟨_, _, _, hcp, fun h9 => (by cases h9), (bI_f (by decide)).symm, rfl⟩)
          · have c145_4 : (T p) = 40 := (nI_eq (a := T p) (b := 40) (by have h91 := hT p (by omega); omega) (by have h91 := hT p (by omega); omega)).mp c145_4
            refine lv_aload_n hx hb dX6_one_148 rfl (lv_at hl 1 rfl) ?_
            refine zci (wr := [(m0, .inl (cI, 380, .inl S)), (m9, .inl (cI, 124, .inl ST))]) (va_runV (As := []) (rest := []) ⟨hx, hb, hml, hown, hts⟩ (c_X6_opens_2 l D cI cJ h m0 m1 m2 m4 m9 m10 m11 m13 m16 m17 m18 m19 i3 tn sp pt u p c  s.heap.size) (cwV 0 hts gX6_one_X6_opens rfl rfl rfl (by decide +kernel) ⟨Nat.le_of_ble_eq_true rfl, Nat.le_of_ble_eq_true rfl⟩) (zpV hK hN hZ hP hD hS hA [0] rfl (by decide) 0 rfl rfl rfl) rfl rfl hl.1 rfl (lv_room (Nat.le_of_ble_eq_true rfl)) dX6_one_149 ⟨Nat.zero_le _, Nat.zero_le _⟩) hP hD hS hA [0] [1, 2] rfl rfl (by decide) (by decide) (fun r_7 w_6 H locs h_5 hP hD hS => ?_)
            obtain ⟨rfl, rfl⟩ := h_5
            have hP : va_P D vwCl [(m0, .inl (cI, 380, .inl S)), (m9, .inl (cI, 124, .inl ST)), (h, .inr (6, [.ref m0, .ref m1, .ref m2, .int i3, .ref m4, .int (nI ((p + 1))), .int (nI 3), .int (nI c), .int (nI u), .ref m9, .ref m10, .ref m11, .int (nI tn), .ref m13, .int (nI sp), .int (nI pt), .ref m16, .ref m17, .ref m18, .ref m19]))] H := hP
            have hD : va_D AA [(m0, .inl (cI, 380, .inl S)), (m9, .inl (cI, 124, .inl ST)), (h, .inr (6, [.ref m0, .ref m1, .ref m2, .int i3, .ref m4, .int (nI ((p + 1))), .int (nI 3), .int (nI c), .int (nI u), .ref m9, .ref m10, .ref m11, .int (nI tn), .ref m13, .int (nI sp), .int (nI pt), .ref m16, .ref m17, .ref m18, .ref m19]))] := hD
            refine lv_if_eq (tgt := 171) hx hb dX6_one_152 (by decide) (fun c152_8 => ?_) (fun c152_8 => ?_)
            · have c152_8 : 1 = 0 := (nI_eq (a := 1) (b := 0) (by omega) (by omega)).mp c152_8
              exact absurd c152_8 (by omega)
            · have c152_8 : ¬ (1 = 0) := fun h9 => c152_8 ((nI_eq (a := 1) (b := 0) (by omega) (by omega)).mpr h9)
              obtain ⟨b1, q1, t1, hR1⟩ : ∃ (b0 : Bool) (q0 : Nat) (t0 : zTks), zLS T L (zQ T L u 2) 5 (p + 1) = (b0, q0, t0) := ⟨_, _, _, rfl⟩
              have hg1 := (zLS_gd (T := T) (zQ_gd (T := T) (L := L) (u := u) 2) 5) (p + 1) (by omega)
              rw [hR1] at hg1
              obtain ⟨hga1, hgb1, hgc1⟩ : (p + 1) ≤ q1 ∧ q1 ≤ L ∧ (b1 = true → (p + 1) < q1 ∧ t1.length ≤ q1 - (p + 1) ∧ zw1 t1) := hg1
              refine lv_aload_n hx hb dX6_one_155 rfl (lv_at hl 1 rfl) ?_
              refine zci (wr := []) (va_runV (As := []) (rest := []) ⟨hx, hb, hml, hown, hts⟩ (c_X6_whole_3 l D cI cJ h m0 m1 m2 m4 m9 m10 m11 m13 m16 m17 m18 m19 i3 tn sp pt S ST L u T ((p + 1)) c b1 q1 t1 (by first | rfl | assumption | omega) (by first | rfl | assumption | omega) (by first | rfl | assumption | omega) (by first | rfl | assumption | omega) (by first | rfl | assumption | omega) (by omega) (by omega) hR1 H.size) (cwV 0 hts gX6_one_X6_whole rfl rfl rfl (by decide +kernel) ⟨Nat.le_of_ble_eq_true rfl, Nat.le_of_ble_eq_true rfl⟩) (zpV hK hN hZ hP hD hS hA [2, 0, 1] rfl (by decide) 2 rfl rfl rfl) rfl rfl hl.1 rfl (lv_room (Nat.le_of_ble_eq_true rfl)) dX6_one_156 ⟨Nat.zero_le _, Nat.zero_le _⟩) hP hD hS hA [2, 0, 1] [] rfl rfl (by decide) (by decide) (fun r_11 w_10 H locs h_9 hP hD hS => ?_)
              obtain ⟨c9_12, o9_13, ST9_14, hq9_15, hx9_16, rfl, rfl⟩ := h_9
              have hP : va_P D vwCl [(h, .inr (6, [.ref m0, .ref m1, .ref m2, .int i3, .ref m4, .int (nI q1), .int (nI o9_13), .int (nI c9_12), .int (nI u), .ref m9, .ref m10, .ref m11, .int (nI tn), .ref m13, .int (nI sp), .int (nI pt), .ref m16, .ref m17, .ref m18, .ref m19])), (m0, .inl (cI, 380, .inl S)), (m9, .inl (cI, 124, .inl ST9_14))] H := hP
              have hD : va_D AA [(h, .inr (6, [.ref m0, .ref m1, .ref m2, .int i3, .ref m4, .int (nI q1), .int (nI o9_13), .int (nI c9_12), .int (nI u), .ref m9, .ref m10, .ref m11, .int (nI tn), .ref m13, .int (nI sp), .int (nI pt), .ref m16, .ref m17, .ref m18, .ref m19])), (m0, .inl (cI, 380, .inl S)), (m9, .inl (cI, 124, .inl ST9_14))] := hD
              refine lv_if_eq (tgt := 171) hx hb dX6_one_159 (by decide) (fun c159_17 => ?_) (fun c159_17 => ?_)
              · have c159_17 := bI_0.mp c159_17
                refine lv_iconst (v := nI 0) hx hb dX6_one_171 (by decide) ?_
                exact hret hP hD hS dX6_one_172 rfl (by obtain ⟨e1, e2⟩ := zq_pf hR (by omega) hdg0 hnx (by omega) hR1 (fun h9 => absurd h9.1 (by assumption)); subst e1; subst e2; exact ⟨_, _, _, hq9_15, fun h9 => (by cases h9), (bI_f (by decide)).symm, rfl⟩)
              · have c159_17 := bI_n0.mp c159_17
                obtain ⟨hgd1, hge1, hgf1⟩ := hgc1 c159_17
                obtain ⟨he1, hE1, ho1⟩ := hx9_16 c159_17
                subst he1; subst hE1; subst ho1
                refine lv_aload_n hx hb dX6_one_162 rfl (lv_at hl 1 rfl) ?_
                by_cases hpL : q1 < L
                · refine zcsE (va_runV (As := []) (rest := []) ⟨hx, hb, hml, hown, hts⟩ (c_X6_look l D cI cJ h m0 m1 m2 m4 m9 m10 m11 m13 m16 m17 m18 m19 i3 tn sp pt S ST L u T q1 ((c + t1.length)) 3 (by first | rfl | assumption | omega) (by first | rfl | assumption | omega) (by first | rfl | assumption | omega) (by first | rfl | assumption | omega) (by first | rfl | assumption | omega) (by omega) H.size) (cwV 0 hts gX6_one_X6_look rfl rfl rfl (by decide +kernel) ⟨Nat.le_of_ble_eq_true rfl, Nat.le_of_ble_eq_true rfl⟩) (zpV hK hN hZ hP hD hS hA [0, 1] rfl (by decide) 0 rfl rfl rfl) rfl rfl hl.1 rfl (lv_room (Nat.le_of_ble_eq_true rfl)) dX6_one_163 ⟨Nat.zero_le _, Nat.zero_le _⟩) ?_
                  refine zrw (if_pos hpL) ?_
                  refine lv_bipush (v := nI 41) hx hb dX6_one_166 (by decide) ?_
                  refine lv_icmp_eq (tgt := 173) hx hb dX6_one_168 (by decide) (fun c168_18 => ?_) (fun c168_18 => ?_)
                  · have c168_18 : (T q1) = 41 := (nI_eq (a := T q1) (b := 41) (by have h91 := hT q1 (by omega); omega) (by have h91 := hT q1 (by omega); omega)).mp c168_18
                    refine lv_aload_n hx hb dX6_one_173 rfl (lv_at hl 1 rfl) ?_
                    refine lv_dup hx hb dX6_one_174 rfl ?_
                    refine va_get (ci := 6) (v := .int (nI q1)) (C := RX6) (T := TX6) (N := 20) hx hb hts hin6 hown hK hP 0 rfl rfl 5 (by decide) (hts (.fieldLink RX6 61 "UpAllRoundModel" "at" "I") (List.mem_of_getElem? (i := 1) rfl)) (fun _ h9 => h9) rfl dX6_one_175 ?_
                    refine lv_iconst (v := nI 1) hx hb dX6_one_178 (by decide) ?_
                    refine lv_iadd hx hb dX6_one_179 ?_
                    refine zrw (nI_add _ _) ?_
                    refine va_put (ci := 6) (v := .int (nI (q1 + 1))) (ty := .int) (C := RX6) (T := TX6) (N := 20) hx hb hts hin6 tyX6 tyX6_ok nmX6 hown hK hP hD hS 0 rfl rfl 5 (by decide) (hts (.fieldLink RX6 61 "UpAllRoundModel" "at" "I") (List.mem_of_getElem? (i := 1) rfl)) (fun _ h9 => h9) rfl (by decide +kernel) rfl rfl (Nat.le_of_ble_eq_true rfl) dX6_one_180 (fun H locs hP hD hS => ?_)
                    have hP : va_P D vwCl [(h, .inr (6, [.ref m0, .ref m1, .ref m2, .int i3, .ref m4, .int (nI (q1 + 1)), .int (nI 3), .int (nI ((c + t1.length))), .int (nI u), .ref m9, .ref m10, .ref m11, .int (nI tn), .ref m13, .int (nI sp), .int (nI pt), .ref m16, .ref m17, .ref m18, .ref m19])), (m0, .inl (cI, 380, .inl S)), (m9, .inl (cI, 124, .inl (zap2 u ST c t1)))] H := hP
                    have hD : va_D AA [(h, .inr (6, [.ref m0, .ref m1, .ref m2, .int i3, .ref m4, .int (nI (q1 + 1)), .int (nI 3), .int (nI ((c + t1.length))), .int (nI u), .ref m9, .ref m10, .ref m11, .int (nI tn), .ref m13, .int (nI sp), .int (nI pt), .ref m16, .ref m17, .ref m18, .ref m19])), (m0, .inl (cI, 380, .inl S)), (m9, .inl (cI, 124, .inl (zap2 u ST c t1)))] := hD
                    refine lv_aload_n hx hb dX6_one_183 rfl (lv_at hl 1 rfl) ?_
                    refine lv_dup hx hb dX6_one_184 rfl ?_
                    refine va_get (ci := 6) (v := .int (nI 3)) (C := RX6) (T := TX6) (N := 20) hx hb hts hin6 hown hK hP 0 rfl rfl 6 (by decide) (hts (.fieldLink RX6 95 "UpAllRoundModel" "open" "I") (List.mem_of_getElem? (i := 2) rfl)) (fun _ h9 => h9) rfl dX6_one_185 ?_
                    refine lv_iconst (v := nI 1) hx hb dX6_one_188 (by decide) ?_
                    refine lv_isub hx hb dX6_one_189 ?_
                    refine zrw (pk_sub (by omega)) ?_
                    refine va_put (ci := 6) (v := .int (nI 2)) (ty := .int) (C := RX6) (T := TX6) (N := 20) hx hb hts hin6 tyX6 tyX6_ok nmX6 hown hK hP hD hS 0 rfl rfl 6 (by decide) (hts (.fieldLink RX6 95 "UpAllRoundModel" "open" "I") (List.mem_of_getElem? (i := 2) rfl)) (fun _ h9 => h9) rfl (by decide +kernel) rfl rfl (Nat.le_of_ble_eq_true rfl) dX6_one_190 (fun H locs hP hD hS => ?_)
                    have hP : va_P D vwCl [(h, .inr (6, [.ref m0, .ref m1, .ref m2, .int i3, .ref m4, .int (nI (q1 + 1)), .int (nI 2), .int (nI ((c + t1.length))), .int (nI u), .ref m9, .ref m10, .ref m11, .int (nI tn), .ref m13, .int (nI sp), .int (nI pt), .ref m16, .ref m17, .ref m18, .ref m19])), (m0, .inl (cI, 380, .inl S)), (m9, .inl (cI, 124, .inl (zap2 u ST c t1)))] H := hP
                    have hD : va_D AA [(h, .inr (6, [.ref m0, .ref m1, .ref m2, .int i3, .ref m4, .int (nI (q1 + 1)), .int (nI 2), .int (nI ((c + t1.length))), .int (nI u), .ref m9, .ref m10, .ref m11, .int (nI tn), .ref m13, .int (nI sp), .int (nI pt), .ref m16, .ref m17, .ref m18, .ref m19])), (m0, .inl (cI, 380, .inl S)), (m9, .inl (cI, 124, .inl (zap2 u ST c t1)))] := hD
                    refine lv_iconst (v := nI 1) hx hb dX6_one_193 (by decide) ?_
                    exact hret hP hD hS dX6_one_194 rfl (by obtain ⟨e1, e2, e3⟩ := zq_pt hR (by omega) hdg0 hnx (by omega) hR1 (by assumption) ⟨by omega, by omega⟩; subst e1; subst e2; subst e3; exact ⟨_, _, _, show c + _ ≤ _ from (by omega), fun _ => ⟨rfl, rfl, rfl⟩, (bI_t rfl).symm, rfl⟩)
                  · have c168_18 : ¬ ((T q1) = 41) := fun h9 => c168_18 ((nI_eq (a := T q1) (b := 41) (by have h91 := hT q1 (by omega); omega) (by have h91 := hT q1 (by omega); omega)).mpr h9)
                    refine lv_iconst (v := nI 0) hx hb dX6_one_171 (by decide) ?_
                    exact hret hP hD hS dX6_one_172 rfl (by obtain ⟨e1, e2⟩ := zq_pf hR (by omega) hdg0 hnx (by omega) hR1 (fun h9 => by have h91 := h9.2; omega); subst e1; subst e2; exact ⟨_, _, _, (show c + _ ≤ _ from (by omega)), fun h9 => (by cases h9), (bI_f (by decide)).symm, rfl⟩)
                · refine zcsE (va_runV (As := []) (rest := []) ⟨hx, hb, hml, hown, hts⟩ (c_X6_look l D cI cJ h m0 m1 m2 m4 m9 m10 m11 m13 m16 m17 m18 m19 i3 tn sp pt S ST L u T q1 ((c + t1.length)) 3 (by first | rfl | assumption | omega) (by first | rfl | assumption | omega) (by first | rfl | assumption | omega) (by first | rfl | assumption | omega) (by first | rfl | assumption | omega) (by omega) H.size) (cwV 0 hts gX6_one_X6_look rfl rfl rfl (by decide +kernel) ⟨Nat.le_of_ble_eq_true rfl, Nat.le_of_ble_eq_true rfl⟩) (zpV hK hN hZ hP hD hS hA [0, 1] rfl (by decide) 0 rfl rfl rfl) rfl rfl hl.1 rfl (lv_room (Nat.le_of_ble_eq_true rfl)) dX6_one_163 ⟨Nat.zero_le _, Nat.zero_le _⟩) ?_
                  refine zrw (if_neg hpL) ?_
                  refine lv_bipush (v := nI 41) hx hb dX6_one_166 (by decide) ?_
                  refine lv_icmp_eq (tgt := 173) hx hb dX6_one_168 (by decide) (fun c168_19 => ?_) (fun c168_19 => ?_)
                  · exact absurd c168_19 (by decide)
                  · refine lv_iconst (v := nI 0) hx hb dX6_one_171 (by decide) ?_
                    exact hret hP hD hS dX6_one_172 rfl (by obtain ⟨e1, e2⟩ := zq_pf hR (by omega) hdg0 hnx (by omega) hR1 (fun h9 => by have h91 := h9.2; omega); subst e1; subst e2; exact ⟨_, _, _, (show c + _ ≤ _ from (by omega)), fun h9 => (by cases h9), (bI_f (by decide)).symm, rfl⟩)
        · have c105_3 : (T p) = 33 := (nI_eq (a := T p) (b := 33) (by have h91 := hT p (by omega); omega) (by have h91 := hT p (by omega); omega)).mp c105_3
          refine lv_aload_n hx hb dX6_one_108 rfl (lv_at hl 1 rfl) ?_
          refine zci (wr := [(m0, .inl (cI, 380, .inl S)), (m9, .inl (cI, 124, .inl ST))]) (va_runV (As := []) (rest := []) ⟨hx, hb, hml, hown, hts⟩ (c_X6_opens_2 l D cI cJ h m0 m1 m2 m4 m9 m10 m11 m13 m16 m17 m18 m19 i3 tn sp pt u p c  s.heap.size) (cwV 0 hts gX6_one_X6_opens rfl rfl rfl (by decide +kernel) ⟨Nat.le_of_ble_eq_true rfl, Nat.le_of_ble_eq_true rfl⟩) (zpV hK hN hZ hP hD hS hA [0] rfl (by decide) 0 rfl rfl rfl) rfl rfl hl.1 rfl (lv_room (Nat.le_of_ble_eq_true rfl)) dX6_one_109 ⟨Nat.zero_le _, Nat.zero_le _⟩) hP hD hS hA [0] [1, 2] rfl rfl (by decide) (by decide) (fun r_22 w_21 H locs h_20 hP hD hS => ?_)
          obtain ⟨rfl, rfl⟩ := h_20
          have hP : va_P D vwCl [(m0, .inl (cI, 380, .inl S)), (m9, .inl (cI, 124, .inl ST)), (h, .inr (6, [.ref m0, .ref m1, .ref m2, .int i3, .ref m4, .int (nI ((p + 1))), .int (nI 3), .int (nI c), .int (nI u), .ref m9, .ref m10, .ref m11, .int (nI tn), .ref m13, .int (nI sp), .int (nI pt), .ref m16, .ref m17, .ref m18, .ref m19]))] H := hP
          have hD : va_D AA [(m0, .inl (cI, 380, .inl S)), (m9, .inl (cI, 124, .inl ST)), (h, .inr (6, [.ref m0, .ref m1, .ref m2, .int i3, .ref m4, .int (nI ((p + 1))), .int (nI 3), .int (nI c), .int (nI u), .ref m9, .ref m10, .ref m11, .int (nI tn), .ref m13, .int (nI sp), .int (nI pt), .ref m16, .ref m17, .ref m18, .ref m19]))] := hD
          refine lv_if_eq (tgt := 122) hx hb dX6_one_112 (by decide) (fun c112_23 => ?_) (fun c112_23 => ?_)
          · have c112_23 : 1 = 0 := (nI_eq (a := 1) (b := 0) (by omega) (by omega)).mp c112_23
            exact absurd c112_23 (by omega)
          · have c112_23 : ¬ (1 = 0) := fun h9 => c112_23 ((nI_eq (a := 1) (b := 0) (by omega) (by omega)).mpr h9)
            obtain ⟨b1, q1, t1, hR1⟩ : ∃ (b0 : Bool) (q0 : Nat) (t0 : zTks), zQ T L u 2 (p + 1) = (b0, q0, t0) := ⟨_, _, _, rfl⟩
            have hg1 := (zQ_gd (T := T) (L := L) (u := u) 2) (p + 1) (by omega)
            rw [hR1] at hg1
            obtain ⟨hga1, hgb1, hgc1⟩ : (p + 1) ≤ q1 ∧ q1 ≤ L ∧ (b1 = true → (p + 1) < q1 ∧ t1.length ≤ q1 - (p + 1) ∧ zw1 t1) := hg1
            refine lv_aload_n hx hb dX6_one_115 rfl (lv_at hl 1 rfl) ?_
            refine zci (wr := []) (va_runV (As := []) (rest := []) ⟨hx, hb, hml, hown, hts⟩ (c_X6_one_3 l D cI cJ h m0 m1 m2 m4 m9 m10 m11 m13 m16 m17 m18 m19 i3 tn sp pt S ST L u T ((p + 1)) c b1 q1 t1 (by first | rfl | assumption | omega) (by first | rfl | assumption | omega) (by first | rfl | assumption | omega) (by first | rfl | assumption | omega) (by first | rfl | assumption | omega) (by omega) (by omega) hR1 H.size) (cwV 0 hts gX6_one_X6_one rfl rfl rfl (by decide +kernel) ⟨Nat.le_of_ble_eq_true rfl, Nat.le_of_ble_eq_true rfl⟩) (zpV hK hN hZ hP hD hS hA [2, 0, 1] rfl (by decide) 2 rfl rfl rfl) rfl rfl hl.1 rfl (lv_room (Nat.le_of_ble_eq_true rfl)) dX6_one_116 ⟨Nat.zero_le _, Nat.zero_le _⟩) hP hD hS hA [2, 0, 1] [] rfl rfl (by decide) (by decide) (fun r_26 w_25 H locs h_24 hP hD hS => ?_)
            obtain ⟨c9_27, o9_28, ST9_29, hq9_30, hx9_31, rfl, rfl⟩ := h_24
            have hP : va_P D vwCl [(h, .inr (6, [.ref m0, .ref m1, .ref m2, .int i3, .ref m4, .int (nI q1), .int (nI o9_28), .int (nI c9_27), .int (nI u), .ref m9, .ref m10, .ref m11, .int (nI tn), .ref m13, .int (nI sp), .int (nI pt), .ref m16, .ref m17, .ref m18, .ref m19])), (m0, .inl (cI, 380, .inl S)), (m9, .inl (cI, 124, .inl ST9_29))] H := hP
            have hD : va_D AA [(h, .inr (6, [.ref m0, .ref m1, .ref m2, .int i3, .ref m4, .int (nI q1), .int (nI o9_28), .int (nI c9_27), .int (nI u), .ref m9, .ref m10, .ref m11, .int (nI tn), .ref m13, .int (nI sp), .int (nI pt), .ref m16, .ref m17, .ref m18, .ref m19])), (m0, .inl (cI, 380, .inl S)), (m9, .inl (cI, 124, .inl ST9_29))] := hD
            refine lv_if_ne (tgt := 124) hx hb dX6_one_119 (by decide) (fun c119_32 => ?_) (fun c119_32 => ?_)
            · have c119_32 := bI_n0.mp c119_32
              obtain ⟨hgd1, hge1, hgf1⟩ := hgc1 c119_32
              obtain ⟨he1, hE1, ho1⟩ := hx9_31 c119_32
              subst he1; subst hE1; subst ho1
              refine lv_aload_n hx hb dX6_one_124 rfl (lv_at hl 1 rfl) ?_
              refine lv_dup hx hb dX6_one_125 rfl ?_
              refine va_get (ci := 6) (v := .int (nI 3)) (C := RX6) (T := TX6) (N := 20) hx hb hts hin6 hown hK hP 0 rfl rfl 6 (by decide) (hts (.fieldLink RX6 95 "UpAllRoundModel" "open" "I") (List.mem_of_getElem? (i := 2) rfl)) (fun _ h9 => h9) rfl dX6_one_126 ?_
              refine lv_iconst (v := nI 1) hx hb dX6_one_129 (by decide) ?_
              refine lv_isub hx hb dX6_one_130 ?_
              refine zrw (pk_sub (by omega)) ?_
              refine va_put (ci := 6) (v := .int (nI 2)) (ty := .int) (C := RX6) (T := TX6) (N := 20) hx hb hts hin6 tyX6 tyX6_ok nmX6 hown hK hP hD hS 0 rfl rfl 6 (by decide) (hts (.fieldLink RX6 95 "UpAllRoundModel" "open" "I") (List.mem_of_getElem? (i := 2) rfl)) (fun _ h9 => h9) rfl (by decide +kernel) rfl rfl (Nat.le_of_ble_eq_true rfl) dX6_one_131 (fun H locs hP hD hS => ?_)
              have hP : va_P D vwCl [(h, .inr (6, [.ref m0, .ref m1, .ref m2, .int i3, .ref m4, .int (nI q1), .int (nI 2), .int (nI ((c + t1.length))), .int (nI u), .ref m9, .ref m10, .ref m11, .int (nI tn), .ref m13, .int (nI sp), .int (nI pt), .ref m16, .ref m17, .ref m18, .ref m19])), (m0, .inl (cI, 380, .inl S)), (m9, .inl (cI, 124, .inl (zap2 u ST c t1)))] H := hP
              have hD : va_D AA [(h, .inr (6, [.ref m0, .ref m1, .ref m2, .int i3, .ref m4, .int (nI q1), .int (nI 2), .int (nI ((c + t1.length))), .int (nI u), .ref m9, .ref m10, .ref m11, .int (nI tn), .ref m13, .int (nI sp), .int (nI pt), .ref m16, .ref m17, .ref m18, .ref m19])), (m0, .inl (cI, 380, .inl S)), (m9, .inl (cI, 124, .inl (zap2 u ST c t1)))] := hD
              refine lv_aload_n hx hb dX6_one_134 rfl (lv_at hl 1 rfl) ?_
              refine lv_iconst (v := nI 2) hx hb dX6_one_135 (by decide) ?_
              refine lv_iconst (v := nI 0) hx hb dX6_one_136 (by decide) ?_
              refine zcv (wr := [(m0, .inl (cI, 380, .inl S))]) (va_runV (As := [.int (nI 2), .int (nI 0)]) (rest := []) ⟨hx, hb, hml, hown, hts⟩ (c_X6_step1 l D cI cJ h m0 m1 m2 m4 m9 m10 m11 m13 m16 m17 m18 m19 i3 tn sp pt u q1 2 ((c + t1.length)) (zap2 u ST c t1) 2 (nI 0) (by omega) H.size) (cwV 2 hts gX6_one_X6_step1 rfl rfl rfl (by decide +kernel) ⟨Nat.le_of_ble_eq_true rfl, Nat.le_of_ble_eq_true rfl⟩) (zpV hK hN hZ hP hD hS hA [0, 2] rfl (by decide) 0 rfl rfl rfl) rfl rfl hl.1 rfl (lv_room (Nat.le_of_ble_eq_true rfl)) dX6_one_137 ⟨Nat.zero_le _, Nat.zero_le _⟩) hP hD hS hA [0, 2] [1] rfl rfl (by decide) (by decide) (fun w_34 H locs h_33 hP hD hS => ?_)
              obtain rfl := h_33
              have hP : va_P D vwCl [(m0, .inl (cI, 380, .inl S)), (h, .inr (6, [.ref m0, .ref m1, .ref m2, .int i3, .ref m4, .int (nI q1), .int (nI 2), .int (nI ((((c + t1.length)) + 1))), .int (nI u), .ref m9, .ref m10, .ref m11, .int (nI tn), .ref m13, .int (nI sp), .int (nI pt), .ref m16, .ref m17, .ref m18, .ref m19])), (m9, .inl (cI, 124, .inl ((upd (upd (zap2 u ST c t1) (2 * ((c + t1.length))) (nI 2)) (2 * ((c + t1.length)) + 1) (nI 0)))))] H := hP
              have hD : va_D AA [(m0, .inl (cI, 380, .inl S)), (h, .inr (6, [.ref m0, .ref m1, .ref m2, .int i3, .ref m4, .int (nI q1), .int (nI 2), .int (nI ((((c + t1.length)) + 1))), .int (nI u), .ref m9, .ref m10, .ref m11, .int (nI tn), .ref m13, .int (nI sp), .int (nI pt), .ref m16, .ref m17, .ref m18, .ref m19])), (m9, .inl (cI, 124, .inl ((upd (upd (zap2 u ST c t1) (2 * ((c + t1.length))) (nI 2)) (2 * ((c + t1.length)) + 1) (nI 0)))))] := hD
              refine lv_iconst (v := nI 1) hx hb dX6_one_140 (by decide) ?_
              have hP := hP.sub (ws' := [(h, .inr (6, [.ref m0, .ref m1, .ref m2, .int i3, .ref m4, .int (nI q1), .int (nI 2), .int (nI ((((c + t1.length)) + 1))), .int (nI u), .ref m9, .ref m10, .ref m11, .int (nI tn), .ref m13, .int (nI sp), .int (nI pt), .ref m16, .ref m17, .ref m18, .ref m19])), (m0, .inl (cI, 380, .inl S)), (m9, .inl (cI, 124, .inl ((upd (upd (zap2 u ST c t1) (2 * ((c + t1.length))) (nI 2)) (2 * ((c + t1.length)) + 1) (nI 0)))))]) [1, 0, 2] rfl
              have hD := hD.sub (ws' := [(h, .inr (6, [.ref m0, .ref m1, .ref m2, .int i3, .ref m4, .int (nI q1), .int (nI 2), .int (nI ((((c + t1.length)) + 1))), .int (nI u), .ref m9, .ref m10, .ref m11, .int (nI tn), .ref m13, .int (nI sp), .int (nI pt), .ref m16, .ref m17, .ref m18, .ref m19])), (m0, .inl (cI, 380, .inl S)), (m9, .inl (cI, 124, .inl ((upd (upd (zap2 u ST c t1) (2 * ((c + t1.length))) (nI 2)) (2 * ((c + t1.length)) + 1) (nI 0)))))]) [1, 0, 2] (by decide) rfl
              exact hret hP hD hS dX6_one_141 rfl (by obtain ⟨e1, e2, e3⟩ := zq_not hR (by omega) hdg0 hnx (by omega) hR1; subst e1; subst e2; rw [e3 (by assumption)]; exact ⟨_, _, _, show c + t1.length + 1 ≤ _ from (by omega), fun _ => ⟨zlen0, zap20 (t := (2, 0)), rfl⟩, (bI_t (by assumption)).symm, rfl⟩)
            · have c119_32 := bI_0.mp c119_32
              refine lv_iconst (v := nI 0) hx hb dX6_one_122 (by decide) ?_
              exact hret hP hD hS dX6_one_123 rfl (by obtain ⟨e1, e2, e3⟩ := zq_not hR (by omega) hdg0 hnx (by omega) hR1; subst e1; subst e2; exact ⟨_, _, _, hq9_30, fun h9 => absurd h9 (by assumption), (bI_f (by assumption)).symm, rfl⟩)
      · have c39_2 := bI_n0.mp c39_2
        have hdg0 : zdg (T p) := (zrg_dg (hT p (by omega))).mp c39_2
        refine lv_iconst (v := nI 0) hx hb dX6_one_42 (by decide) ?_
        refine lv_istore_n (lv' := [(2, .int (nI 0)), (1, .int (nI (T p))), (0, .ref h)]) hx hb dX6_one_43 rfl hl (by decide) rfl (fun ls hl => ?_)
        refine lv_iconst (v := nI 0) hx hb dX6_one_44 (by decide) ?_
        refine lv_istore_n (lv' := [(3, .int (nI 0)), (2, .int (nI 0)), (1, .int (nI (T p))), (0, .ref h)]) hx hb dX6_one_45 rfl hl (by decide) rfl (fun ls hl => ?_)
        have L_46 : ∀ (fu i : Nat) (pv : Nat) (v : Nat) (hi : i ≤ 4) (hn : 4 + 1 ≤ i + fu) (hz : zNm T L (4 - i) pv v = zNm T L 4 p 0) (hpv : pv ≤ L) (hv : v < 10 ^ i), ∀ (ls : Array Slot), lv_has ls 4 [(0, .ref h), (2, .int (nI v)), (3, .int (nI i))] → ∀ (H : Heap) (locs : List Loc), va_P D vwCl [(h, .inr (6, [.ref m0, .ref m1, .ref m2, .int i3, .ref m4, .int (nI pv), .int (nI 2), .int (nI c), .int (nI u), .ref m9, .ref m10, .ref m11, .int (nI tn), .ref m13, .int (nI sp), .int (nI pt), .ref m16, .ref m17, .ref m18, .ref m19])), (m0, .inl (cI, 380, .inl S)), (m9, .inl (cI, 124, .inl ST))] H → va_D AA [(h, .inr (6, [.ref m0, .ref m1, .ref m2, .int i3, .ref m4, .int (nI pv), .int (nI 2), .int (nI c), .int (nI u), .ref m9, .ref m10, .ref m11, .int (nI tn), .ref m13, .int (nI sp), .int (nI pt), .ref m16, .ref m17, .ref m18, .ref m19])), (m0, .inl (cI, 380, .inl S)), (m9, .inl (cI, 124, .inl ST))] → va_S AA s.heap H locs → W pg l ev ({ frames := 19, cells := 0, slots := 0, locals := 400 } : Room) s mt args below meth cd H locs 0 0 QQ (F0 mt 46 ls []) := by
          intro fu
          induction fu with
          | zero =>
            intro i pv v hi hn
            exact absurd hn (by omega)
          | succ fu ih_46 =>
            intro i pv v hi hn hz hpv hv ls hl H locs hP hD hS
            refine lv_iload_n hx hb dX6_one_46 rfl (lv_at hl 2 rfl) ?_
            refine lv_iconst (v := nI 4) hx hb dX6_one_47 (by decide) ?_
            refine lv_icmp_ge (tgt := 94) hx hb dX6_one_48 (by decide) (fun c48_35 => ?_) (fun c48_35 => ?_)
            · have c48_35 : 4 ≤ i := (nI_leI (a := 4) (b := i) (by omega) (by omega)).mp c48_35
              have hfin : zNm T L 4 p 0 = (pv, v) := by rw [← hz]; rw [show 4 - i = 0 by omega] <;> rfl
              refine lv_aload_n hx hb dX6_one_94 rfl (lv_at hl 0 rfl) ?_
              refine lv_iconst (v := nI 0) hx hb dX6_one_95 (by decide) ?_
              refine lv_iload_n hx hb dX6_one_96 rfl (lv_at hl 1 rfl) ?_
              refine zcv (wr := [(m0, .inl (cI, 380, .inl S))]) (va_runV (As := [.int (nI 0), .int (nI v)]) (rest := []) ⟨hx, hb, hml, hown, hts⟩ (c_X6_step1 l D cI cJ h m0 m1 m2 m4 m9 m10 m11 m13 m16 m17 m18 m19 i3 tn sp pt u pv 2 c ST 0 (nI v) (by omega) H.size) (cwV 2 hts gX6_one_X6_step1 rfl rfl rfl (by decide +kernel) ⟨Nat.le_of_ble_eq_true rfl, Nat.le_of_ble_eq_true rfl⟩) (zpV hK hN hZ hP hD hS hA [0, 2] rfl (by decide) 0 rfl rfl rfl) rfl rfl hl.1 rfl (lv_room (Nat.le_of_ble_eq_true rfl)) dX6_one_97 ⟨Nat.zero_le _, Nat.zero_le _⟩) hP hD hS hA [0, 2] [1] rfl rfl (by decide) (by decide) (fun w_37 H locs h_36 hP hD hS => ?_)
              obtain rfl := h_36
              have hP : va_P D vwCl [(m0, .inl (cI, 380, .inl S)), (h, .inr (6, [.ref m0, .ref m1, .ref m2, .int i3, .ref m4, .int (nI pv), .int (nI 2), .int (nI ((c + 1))), .int (nI u), .ref m9, .ref m10, .ref m11, .int (nI tn), .ref m13, .int (nI sp), .int (nI pt), .ref m16, .ref m17, .ref m18, .ref m19])), (m9, .inl (cI, 124, .inl ((upd (upd ST (2 * c) (nI 0)) (2 * c + 1) (nI v)))))] H := hP
              have hD : va_D AA [(m0, .inl (cI, 380, .inl S)), (h, .inr (6, [.ref m0, .ref m1, .ref m2, .int i3, .ref m4, .int (nI pv), .int (nI 2), .int (nI ((c + 1))), .int (nI u), .ref m9, .ref m10, .ref m11, .int (nI tn), .ref m13, .int (nI sp), .int (nI pt), .ref m16, .ref m17, .ref m18, .ref m19])), (m9, .inl (cI, 124, .inl ((upd (upd ST (2 * c) (nI 0)) (2 * c + 1) (nI v)))))] := hD
              refine lv_iconst (v := nI 1) hx hb dX6_one_100 (by decide) ?_
              have hP := hP.sub (ws' := [(h, .inr (6, [.ref m0, .ref m1, .ref m2, .int i3, .ref m4, .int (nI pv), .int (nI 2), .int (nI ((c + 1))), .int (nI u), .ref m9, .ref m10, .ref m11, .int (nI tn), .ref m13, .int (nI sp), .int (nI pt), .ref m16, .ref m17, .ref m18, .ref m19])), (m0, .inl (cI, 380, .inl S)), (m9, .inl (cI, 124, .inl ((upd (upd ST (2 * c) (nI 0)) (2 * c + 1) (nI v)))))]) [1, 0, 2] rfl
              have hD := hD.sub (ws' := [(h, .inr (6, [.ref m0, .ref m1, .ref m2, .int i3, .ref m4, .int (nI pv), .int (nI 2), .int (nI ((c + 1))), .int (nI u), .ref m9, .ref m10, .ref m11, .int (nI tn), .ref m13, .int (nI sp), .int (nI pt), .ref m16, .ref m17, .ref m18, .ref m19])), (m0, .inl (cI, 380, .inl S)), (m9, .inl (cI, 124, .inl ((upd (upd ST (2 * c) (nI 0)) (2 * c + 1) (nI v)))))]) [1, 0, 2] (by decide) rfl
              exact hret hP hD hS dX6_one_101 rfl (by obtain ⟨e1, e2, e3⟩ := zq_d hR (by omega) hdg0; rw [hfin] at e2 e3; subst e1; subst e2; subst e3; exact ⟨_, _, _, show c + 1 ≤ _ from (by have h91 := zNm_4 (T := T) (L := L) (p := p) (by omega) hdg0; rw [hfin] at h91; omega), fun _ => ⟨rfl, rfl, rfl⟩, (bI_t rfl).symm, rfl⟩)
            · have c48_35 : ¬ (4 ≤ i) := fun h9 => c48_35 ((nI_leI (a := 4) (b := i) (by omega) (by omega)).mpr h9)
              refine lv_aload_n hx hb dX6_one_51 rfl (lv_at hl 0 rfl) ?_
              by_cases hpL : pv < L
              · refine zcsE (va_runV (As := []) (rest := []) ⟨hx, hb, hml, hown, hts⟩ (c_X6_look l D cI cJ h m0 m1 m2 m4 m9 m10 m11 m13 m16 m17 m18 m19 i3 tn sp pt S ST L u T pv c 2 (by first | rfl | assumption | omega) (by first | rfl | assumption | omega) (by first | rfl | assumption | omega) (by first | rfl | assumption | omega) (by first | rfl | assumption | omega) (by omega) H.size) (cwV 0 hts gX6_one_X6_look rfl rfl rfl (by decide +kernel) ⟨Nat.le_of_ble_eq_true rfl, Nat.le_of_ble_eq_true rfl⟩) (zpV hK hN hZ hP hD hS hA [0, 1] rfl (by decide) 0 rfl rfl rfl) rfl rfl hl.1 rfl (lv_room (Nat.le_of_ble_eq_true rfl)) dX6_one_52 ⟨Nat.zero_le _, Nat.zero_le _⟩) ?_
                refine zrw (if_pos hpL) ?_
                refine lv_bipush (v := nI 48) hx hb dX6_one_55 (by decide) ?_
                refine lv_bipush (v := nI 57) hx hb dX6_one_57 (by decide) ?_
                refine zcsE (va_runS (As := [.int (nI (T pv)), .int (nI 48), .int (nI 57)]) (rest := []) ⟨hx, hb, hml, hown, hts⟩ (d_X6_in l D cI cJ (nI (T pv)) (nI 48) (nI 57) 48 57 (by decide) (by decide) H.size) (va_cwS 3 hts gX6_one_X6_in rfl rfl rfl (by decide +kernel) ⟨Nat.le_of_ble_eq_true rfl, Nat.le_of_ble_eq_true rfl⟩) (zpS hK hN hZ hP hD hS hA [] rfl (by decide)) rfl rfl hl.1 rfl (lv_room (Nat.le_of_ble_eq_true rfl)) dX6_one_59 ⟨Nat.zero_le _, Nat.zero_le _⟩) ?_
                refine lv_if_eq (tgt := 94) hx hb dX6_one_62 (by decide) (fun c62_38 => ?_) (fun c62_38 => ?_)
                · have c62_38 := bI_0.mp c62_38
                  have hfin : zNm T L 4 p 0 = (pv, v) := by rw [← hz]; rw [show 4 - i = (3 - i) + 1 by omega, zNm_f (fun h9 => absurd ((zrg_dg (hT pv (by omega))).mpr h9.2) (by assumption))]
                  refine lv_aload_n hx hb dX6_one_94 rfl (lv_at hl 0 rfl) ?_
                  refine lv_iconst (v := nI 0) hx hb dX6_one_95 (by decide) ?_
                  refine lv_iload_n hx hb dX6_one_96 rfl (lv_at hl 1 rfl) ?_
                  refine zcv (wr := [(m0, .inl (cI, 380, .inl S))]) (va_runV (As := [.int (nI 0), .int (nI v)]) (rest := []) ⟨hx, hb, hml, hown, hts⟩ (c_X6_step1 l D cI cJ h m0 m1 m2 m4 m9 m10 m11 m13 m16 m17 m18 m19 i3 tn sp pt u pv 2 c ST 0 (nI v) (by omega) H.size) (cwV 2 hts gX6_one_X6_step1 rfl rfl rfl (by decide +kernel) ⟨Nat.le_of_ble_eq_true rfl, Nat.le_of_ble_eq_true rfl⟩) (zpV hK hN hZ hP hD hS hA [0, 2] rfl (by decide) 0 rfl rfl rfl) rfl rfl hl.1 rfl (lv_room (Nat.le_of_ble_eq_true rfl)) dX6_one_97 ⟨Nat.zero_le _, Nat.zero_le _⟩) hP hD hS hA [0, 2] [1] rfl rfl (by decide) (by decide) (fun w_40 H locs h_39 hP hD hS => ?_)
                  obtain rfl := h_39
                  have hP : va_P D vwCl [(m0, .inl (cI, 380, .inl S)), (h, .inr (6, [.ref m0, .ref m1, .ref m2, .int i3, .ref m4, .int (nI pv), .int (nI 2), .int (nI ((c + 1))), .int (nI u), .ref m9, .ref m10, .ref m11, .int (nI tn), .ref m13, .int (nI sp), .int (nI pt), .ref m16, .ref m17, .ref m18, .ref m19])), (m9, .inl (cI, 124, .inl ((upd (upd ST (2 * c) (nI 0)) (2 * c + 1) (nI v)))))] H := hP
                  have hD : va_D AA [(m0, .inl (cI, 380, .inl S)), (h, .inr (6, [.ref m0, .ref m1, .ref m2, .int i3, .ref m4, .int (nI pv), .int (nI 2), .int (nI ((c + 1))), .int (nI u), .ref m9, .ref m10, .ref m11, .int (nI tn), .ref m13, .int (nI sp), .int (nI pt), .ref m16, .ref m17, .ref m18, .ref m19])), (m9, .inl (cI, 124, .inl ((upd (upd ST (2 * c) (nI 0)) (2 * c + 1) (nI v)))))] := hD
                  refine lv_iconst (v := nI 1) hx hb dX6_one_100 (by decide) ?_
                  have hP := hP.sub (ws' := [(h, .inr (6, [.ref m0, .ref m1, .ref m2, .int i3, .ref m4, .int (nI pv), .int (nI 2), .int (nI ((c + 1))), .int (nI u), .ref m9, .ref m10, .ref m11, .int (nI tn), .ref m13, .int (nI sp), .int (nI pt), .ref m16, .ref m17, .ref m18, .ref m19])), (m0, .inl (cI, 380, .inl S)), (m9, .inl (cI, 124, .inl ((upd (upd ST (2 * c) (nI 0)) (2 * c + 1) (nI v)))))]) [1, 0, 2] rfl
                  have hD := hD.sub (ws' := [(h, .inr (6, [.ref m0, .ref m1, .ref m2, .int i3, .ref m4, .int (nI pv), .int (nI 2), .int (nI ((c + 1))), .int (nI u), .ref m9, .ref m10, .ref m11, .int (nI tn), .ref m13, .int (nI sp), .int (nI pt), .ref m16, .ref m17, .ref m18, .ref m19])), (m0, .inl (cI, 380, .inl S)), (m9, .inl (cI, 124, .inl ((upd (upd ST (2 * c) (nI 0)) (2 * c + 1) (nI v)))))]) [1, 0, 2] (by decide) rfl
                  exact hret hP hD hS dX6_one_101 rfl (by obtain ⟨e1, e2, e3⟩ := zq_d hR (by omega) hdg0; rw [hfin] at e2 e3; subst e1; subst e2; subst e3; exact ⟨_, _, _, show c + 1 ≤ _ from (by have h91 := zNm_4 (T := T) (L := L) (p := p) (by omega) hdg0; rw [hfin] at h91; omega), fun _ => ⟨rfl, rfl, rfl⟩, (bI_t rfl).symm, rfl⟩)
                · have c62_38 := bI_n0.mp c62_38
                  have hdg9 : 48 ≤ T pv ∧ T pv ≤ 57 := (zrg_dg (hT pv (by omega))).mp c62_38
                  refine lv_bipush (v := nI 10) hx hb dX6_one_65 (by decide) ?_
                  refine lv_iload_n hx hb dX6_one_67 rfl (lv_at hl 1 rfl) ?_
                  refine lv_imul hx hb dX6_one_68 ?_
                  refine zrw (pk_mul _ _) ?_
                  refine lv_aload_n hx hb dX6_one_69 rfl (lv_at hl 0 rfl) ?_
                  refine zcsE (va_runV (As := []) (rest := [.int (nI (10 * v))]) ⟨hx, hb, hml, hown, hts⟩ (c_X6_look l D cI cJ h m0 m1 m2 m4 m9 m10 m11 m13 m16 m17 m18 m19 i3 tn sp pt S ST L u T pv c 2 (by first | rfl | assumption | omega) (by first | rfl | assumption | omega) (by first | rfl | assumption | omega) (by first | rfl | assumption | omega) (by first | rfl | assumption | omega) (by omega) H.size) (cwV 0 hts gX6_one_X6_look rfl rfl rfl (by decide +kernel) ⟨Nat.le_of_ble_eq_true rfl, Nat.le_of_ble_eq_true rfl⟩) (zpV hK hN hZ hP hD hS hA [0, 1] rfl (by decide) 0 rfl rfl rfl) rfl rfl hl.1 rfl (lv_room (Nat.le_of_ble_eq_true rfl)) dX6_one_70 ⟨Nat.zero_le _, Nat.zero_le _⟩) ?_
                  refine zrw (if_pos hpL) ?_
                  refine lv_iadd hx hb dX6_one_73 ?_
                  refine zrw (nI_add _ _) ?_
                  refine lv_bipush (v := nI 48) hx hb dX6_one_74 (by decide) ?_
                  refine lv_isub hx hb dX6_one_76 ?_
                  refine zrw (pk_sub (by omega)) ?_
                  refine lv_istore_n (lv' := [(2, .int (nI (((10 * v) + (T pv)) - 48))), (0, .ref h), (3, .int (nI i))]) hx hb dX6_one_77 rfl hl (by decide) rfl (fun ls hl => ?_)
                  refine lv_aload_n hx hb dX6_one_78 rfl (lv_at hl 1 rfl) ?_
                  refine lv_dup hx hb dX6_one_79 rfl ?_
                  refine va_get (ci := 6) (v := .int (nI pv)) (C := RX6) (T := TX6) (N := 20) hx hb hts hin6 hown hK hP 0 rfl rfl 5 (by decide) (hts (.fieldLink RX6 61 "UpAllRoundModel" "at" "I") (List.mem_of_getElem? (i := 1) rfl)) (fun _ h9 => h9) rfl dX6_one_80 ?_
                  refine lv_iconst (v := nI 1) hx hb dX6_one_83 (by decide) ?_
                  refine lv_iadd hx hb dX6_one_84 ?_
                  refine zrw (nI_add _ _) ?_
                  refine va_put (ci := 6) (v := .int (nI (pv + 1))) (ty := .int) (C := RX6) (T := TX6) (N := 20) hx hb hts hin6 tyX6 tyX6_ok nmX6 hown hK hP hD hS 0 rfl rfl 5 (by decide) (hts (.fieldLink RX6 61 "UpAllRoundModel" "at" "I") (List.mem_of_getElem? (i := 1) rfl)) (fun _ h9 => h9) rfl (by decide +kernel) rfl rfl (Nat.le_of_ble_eq_true rfl) dX6_one_85 (fun H locs hP hD hS => ?_)
                  have hP : va_P D vwCl [(h, .inr (6, [.ref m0, .ref m1, .ref m2, .int i3, .ref m4, .int (nI (pv + 1)), .int (nI 2), .int (nI c), .int (nI u), .ref m9, .ref m10, .ref m11, .int (nI tn), .ref m13, .int (nI sp), .int (nI pt), .ref m16, .ref m17, .ref m18, .ref m19])), (m0, .inl (cI, 380, .inl S)), (m9, .inl (cI, 124, .inl ST))] H := hP
                  have hD : va_D AA [(h, .inr (6, [.ref m0, .ref m1, .ref m2, .int i3, .ref m4, .int (nI (pv + 1)), .int (nI 2), .int (nI c), .int (nI u), .ref m9, .ref m10, .ref m11, .int (nI tn), .ref m13, .int (nI sp), .int (nI pt), .ref m16, .ref m17, .ref m18, .ref m19])), (m0, .inl (cI, 380, .inl S)), (m9, .inl (cI, 124, .inl ST))] := hD
                  refine lv_iinc (v := nI (i + 1)) (lv' := [(3, .int (nI (i + 1))), (2, .int (nI (((10 * v) + (T pv)) - 48))), (0, .ref h)]) hx hb dX6_one_88 hl (k := 2) rfl (nI_add _ _) (by decide) rfl (fun ls hl => ?_)
                  refine lv_goto (tgt := 46) hx hb dX6_one_91 (by decide) ?_
                  exact ih_46  (i + 1) ((pv + 1)) ((10 * v + T pv - 48)) (by omega) (by omega) (by rw [← hz, show 4 - i = (4 - (i + 1)) + 1 by omega, zNm_t ⟨by omega, hdg9⟩, show 10 * v + (T pv - 48) = 10 * v + T pv - 48 by omega]) (by omega) (by rw [Nat.pow_succ]; omega) ls (lv_sub hl [2, 1, 0] rfl) H locs hP hD hS
              · refine zcsE (va_runV (As := []) (rest := []) ⟨hx, hb, hml, hown, hts⟩ (c_X6_look l D cI cJ h m0 m1 m2 m4 m9 m10 m11 m13 m16 m17 m18 m19 i3 tn sp pt S ST L u T pv c 2 (by first | rfl | assumption | omega) (by first | rfl | assumption | omega) (by first | rfl | assumption | omega) (by first | rfl | assumption | omega) (by first | rfl | assumption | omega) (by omega) H.size) (cwV 0 hts gX6_one_X6_look rfl rfl rfl (by decide +kernel) ⟨Nat.le_of_ble_eq_true rfl, Nat.le_of_ble_eq_true rfl⟩) (zpV hK hN hZ hP hD hS hA [0, 1] rfl (by decide) 0 rfl rfl rfl) rfl rfl hl.1 rfl (lv_room (Nat.le_of_ble_eq_true rfl)) dX6_one_52 ⟨Nat.zero_le _, Nat.zero_le _⟩) ?_
                refine zrw (if_neg hpL) ?_
                refine lv_bipush (v := nI 48) hx hb dX6_one_55 (by decide) ?_
                refine lv_bipush (v := nI 57) hx hb dX6_one_57 (by decide) ?_
                refine zcsE (va_runS (As := [.int ((-1)), .int (nI 48), .int (nI 57)]) (rest := []) ⟨hx, hb, hml, hown, hts⟩ (d_X6_in l D cI cJ ((-1)) (nI 48) (nI 57) 48 57 (by decide) (by decide) H.size) (va_cwS 3 hts gX6_one_X6_in rfl rfl rfl (by decide +kernel) ⟨Nat.le_of_ble_eq_true rfl, Nat.le_of_ble_eq_true rfl⟩) (zpS hK hN hZ hP hD hS hA [] rfl (by decide)) rfl rfl hl.1 rfl (lv_room (Nat.le_of_ble_eq_true rfl)) dX6_one_59 ⟨Nat.zero_le _, Nat.zero_le _⟩) ?_
                refine lv_if_eq (tgt := 94) hx hb dX6_one_62 (by decide) (fun c62_41 => ?_) (fun c62_41 => ?_)
                · have c62_41 := bI_0.mp c62_41
                  have hfin : zNm T L 4 p 0 = (pv, v) := by rw [← hz]; rw [show 4 - i = (3 - i) + 1 by omega, zNm_f (fun h9 => absurd h9.1 (by omega))]
                  refine lv_aload_n hx hb dX6_one_94 rfl (lv_at hl 0 rfl) ?_
                  refine lv_iconst (v := nI 0) hx hb dX6_one_95 (by decide) ?_
                  refine lv_iload_n hx hb dX6_one_96 rfl (lv_at hl 1 rfl) ?_
                  refine zcv (wr := [(m0, .inl (cI, 380, .inl S))]) (va_runV (As := [.int (nI 0), .int (nI v)]) (rest := []) ⟨hx, hb, hml, hown, hts⟩ (c_X6_step1 l D cI cJ h m0 m1 m2 m4 m9 m10 m11 m13 m16 m17 m18 m19 i3 tn sp pt u pv 2 c ST 0 (nI v) (by omega) H.size) (cwV 2 hts gX6_one_X6_step1 rfl rfl rfl (by decide +kernel) ⟨Nat.le_of_ble_eq_true rfl, Nat.le_of_ble_eq_true rfl⟩) (zpV hK hN hZ hP hD hS hA [0, 2] rfl (by decide) 0 rfl rfl rfl) rfl rfl hl.1 rfl (lv_room (Nat.le_of_ble_eq_true rfl)) dX6_one_97 ⟨Nat.zero_le _, Nat.zero_le _⟩) hP hD hS hA [0, 2] [1] rfl rfl (by decide) (by decide) (fun w_43 H locs h_42 hP hD hS => ?_)
                  obtain rfl := h_42
                  have hP : va_P D vwCl [(m0, .inl (cI, 380, .inl S)), (h, .inr (6, [.ref m0, .ref m1, .ref m2, .int i3, .ref m4, .int (nI pv), .int (nI 2), .int (nI ((c + 1))), .int (nI u), .ref m9, .ref m10, .ref m11, .int (nI tn), .ref m13, .int (nI sp), .int (nI pt), .ref m16, .ref m17, .ref m18, .ref m19])), (m9, .inl (cI, 124, .inl ((upd (upd ST (2 * c) (nI 0)) (2 * c + 1) (nI v)))))] H := hP
                  have hD : va_D AA [(m0, .inl (cI, 380, .inl S)), (h, .inr (6, [.ref m0, .ref m1, .ref m2, .int i3, .ref m4, .int (nI pv), .int (nI 2), .int (nI ((c + 1))), .int (nI u), .ref m9, .ref m10, .ref m11, .int (nI tn), .ref m13, .int (nI sp), .int (nI pt), .ref m16, .ref m17, .ref m18, .ref m19])), (m9, .inl (cI, 124, .inl ((upd (upd ST (2 * c) (nI 0)) (2 * c + 1) (nI v)))))] := hD
                  refine lv_iconst (v := nI 1) hx hb dX6_one_100 (by decide) ?_
                  have hP := hP.sub (ws' := [(h, .inr (6, [.ref m0, .ref m1, .ref m2, .int i3, .ref m4, .int (nI pv), .int (nI 2), .int (nI ((c + 1))), .int (nI u), .ref m9, .ref m10, .ref m11, .int (nI tn), .ref m13, .int (nI sp), .int (nI pt), .ref m16, .ref m17, .ref m18, .ref m19])), (m0, .inl (cI, 380, .inl S)), (m9, .inl (cI, 124, .inl ((upd (upd ST (2 * c) (nI 0)) (2 * c + 1) (nI v)))))]) [1, 0, 2] rfl
                  have hD := hD.sub (ws' := [(h, .inr (6, [.ref m0, .ref m1, .ref m2, .int i3, .ref m4, .int (nI pv), .int (nI 2), .int (nI ((c + 1))), .int (nI u), .ref m9, .ref m10, .ref m11, .int (nI tn), .ref m13, .int (nI sp), .int (nI pt), .ref m16, .ref m17, .ref m18, .ref m19])), (m0, .inl (cI, 380, .inl S)), (m9, .inl (cI, 124, .inl ((upd (upd ST (2 * c) (nI 0)) (2 * c + 1) (nI v)))))]) [1, 0, 2] (by decide) rfl
                  exact hret hP hD hS dX6_one_101 rfl (by obtain ⟨e1, e2, e3⟩ := zq_d hR (by omega) hdg0; rw [hfin] at e2 e3; subst e1; subst e2; subst e3; exact ⟨_, _, _, show c + 1 ≤ _ from (by have h91 := zNm_4 (T := T) (L := L) (p := p) (by omega) hdg0; rw [hfin] at h91; omega), fun _ => ⟨rfl, rfl, rfl⟩, (bI_t rfl).symm, rfl⟩)
                · have c62_41 := bI_n0.mp c62_41
                  exact absurd c62_41 (by decide)
        exact L_46 (4 + 1) 0 p 0 (by omega) (by omega) rfl hp (by decide) ls (lv_sub hl [3, 1, 0] rfl) _ _ hP hD hS
    · have c10_1 := bI_nn0.mp c10_1
      rcases hnx : znx u (T p) with _ | j
      · exact absurd hnx c10_1
      have hj3 := (znx_ch hnx).2
      refine lv_aload_n hx hb dX6_one_13 rfl (lv_at hl 1 rfl) ?_
      refine lv_dup hx hb dX6_one_14 rfl ?_
      refine va_get (ci := 6) (v := .int (nI p)) (C := RX6) (T := TX6) (N := 20) hx hb hts hin6 hown hK hP 0 rfl rfl 5 (by decide) (hts (.fieldLink RX6 61 "UpAllRoundModel" "at" "I") (List.mem_of_getElem? (i := 1) rfl)) (fun _ h9 => h9) rfl dX6_one_15 ?_
      refine lv_iconst (v := nI 1) hx hb dX6_one_18 (by decide) ?_
      refine lv_iadd hx hb dX6_one_19 ?_
      refine zrw (nI_add _ _) ?_
      refine va_put (ci := 6) (v := .int (nI (p + 1))) (ty := .int) (C := RX6) (T := TX6) (N := 20) hx hb hts hin6 tyX6 tyX6_ok nmX6 hown hK hP hD hS 0 rfl rfl 5 (by decide) (hts (.fieldLink RX6 61 "UpAllRoundModel" "at" "I") (List.mem_of_getElem? (i := 1) rfl)) (fun _ h9 => h9) rfl (by decide +kernel) rfl rfl (Nat.le_of_ble_eq_true rfl) dX6_one_20 (fun H locs hP hD hS => ?_)
      have hP : va_P D vwCl [(h, .inr (6, [.ref m0, .ref m1, .ref m2, .int i3, .ref m4, .int (nI (p + 1)), .int (nI 2), .int (nI c), .int (nI u), .ref m9, .ref m10, .ref m11, .int (nI tn), .ref m13, .int (nI sp), .int (nI pt), .ref m16, .ref m17, .ref m18, .ref m19])), (m0, .inl (cI, 380, .inl S)), (m9, .inl (cI, 124, .inl ST))] H := hP
      have hD : va_D AA [(h, .inr (6, [.ref m0, .ref m1, .ref m2, .int i3, .ref m4, .int (nI (p + 1)), .int (nI 2), .int (nI c), .int (nI u), .ref m9, .ref m10, .ref m11, .int (nI tn), .ref m13, .int (nI sp), .int (nI pt), .ref m16, .ref m17, .ref m18, .ref m19])), (m0, .inl (cI, 380, .inl S)), (m9, .inl (cI, 124, .inl ST))] := hD
      refine lv_aload_n hx hb dX6_one_23 rfl (lv_at hl 1 rfl) ?_
      refine lv_iconst (v := nI 1) hx hb dX6_one_24 (by decide) ?_
      refine lv_iload_n hx hb dX6_one_25 rfl (lv_at hl 0 rfl) ?_
      refine zcv (wr := [(m0, .inl (cI, 380, .inl S))]) (va_runV (As := [.int (nI 1), .int (nI (T p))]) (rest := []) ⟨hx, hb, hml, hown, hts⟩ (c_X6_step1 l D cI cJ h m0 m1 m2 m4 m9 m10 m11 m13 m16 m17 m18 m19 i3 tn sp pt u (p + 1) 2 c ST 1 (nI (T p)) (by omega) H.size) (cwV 2 hts gX6_one_X6_step1 rfl rfl rfl (by decide +kernel) ⟨Nat.le_of_ble_eq_true rfl, Nat.le_of_ble_eq_true rfl⟩) (zpV hK hN hZ hP hD hS hA [0, 2] rfl (by decide) 0 rfl rfl rfl) rfl rfl hl.1 rfl (lv_room (Nat.le_of_ble_eq_true rfl)) dX6_one_26 ⟨Nat.zero_le _, Nat.zero_le _⟩) hP hD hS hA [0, 2] [1] rfl rfl (by decide) (by decide) (fun w_45 H locs h_44 hP hD hS => ?_)
      obtain rfl := h_44
      have hP : va_P D vwCl [(m0, .inl (cI, 380, .inl S)), (h, .inr (6, [.ref m0, .ref m1, .ref m2, .int i3, .ref m4, .int (nI ((p + 1))), .int (nI 2), .int (nI ((c + 1))), .int (nI u), .ref m9, .ref m10, .ref m11, .int (nI tn), .ref m13, .int (nI sp), .int (nI pt), .ref m16, .ref m17, .ref m18, .ref m19])), (m9, .inl (cI, 124, .inl ((upd (upd ST (2 * c) (nI 1)) (2 * c + 1) (nI (T p))))))] H := hP
      have hD : va_D AA [(m0, .inl (cI, 380, .inl S)), (h, .inr (6, [.ref m0, .ref m1, .ref m2, .int i3, .ref m4, .int (nI ((p + 1))), .int (nI 2), .int (nI ((c + 1))), .int (nI u), .ref m9, .ref m10, .ref m11, .int (nI tn), .ref m13, .int (nI sp), .int (nI pt), .ref m16, .ref m17, .ref m18, .ref m19])), (m9, .inl (cI, 124, .inl ((upd (upd ST (2 * c) (nI 1)) (2 * c + 1) (nI (T p))))))] := hD
      refine lv_iconst (v := nI 1) hx hb dX6_one_29 (by decide) ?_
      have hP := hP.sub (ws' := [(h, .inr (6, [.ref m0, .ref m1, .ref m2, .int i3, .ref m4, .int (nI ((p + 1))), .int (nI 2), .int (nI ((c + 1))), .int (nI u), .ref m9, .ref m10, .ref m11, .int (nI tn), .ref m13, .int (nI sp), .int (nI pt), .ref m16, .ref m17, .ref m18, .ref m19])), (m0, .inl (cI, 380, .inl S)), (m9, .inl (cI, 124, .inl ((upd (upd ST (2 * c) (nI 1)) (2 * c + 1) (nI (T p))))))]) [1, 0, 2] rfl
      have hD := hD.sub (ws' := [(h, .inr (6, [.ref m0, .ref m1, .ref m2, .int i3, .ref m4, .int (nI ((p + 1))), .int (nI 2), .int (nI ((c + 1))), .int (nI u), .ref m9, .ref m10, .ref m11, .int (nI tn), .ref m13, .int (nI sp), .int (nI pt), .ref m16, .ref m17, .ref m18, .ref m19])), (m0, .inl (cI, 380, .inl S)), (m9, .inl (cI, 124, .inl ((upd (upd ST (2 * c) (nI 1)) (2 * c + 1) (nI (T p))))))]) [1, 0, 2] (by decide) rfl
      exact hret hP hD hS dX6_one_30 rfl (by obtain ⟨e1, e2, e3⟩ := zq_n hR (by omega) (znx_dg hnx) hnx; subst e1; subst e2; subst e3; exact ⟨_, _, _, show c + 1 ≤ p + 1 from (by omega), fun _ => ⟨rfl, (by rw [← (znx_ch hnx).1] <;> rfl), rfl⟩, (bI_t rfl).symm, rfl⟩)
  · refine zcsE (va_runV (As := []) (rest := []) ⟨hx, hb, hml, hown, hts⟩ (c_X6_look l D cI cJ h m0 m1 m2 m4 m9 m10 m11 m13 m16 m17 m18 m19 i3 tn sp pt S ST L u T p c 2 (by first | rfl | assumption | omega) (by first | rfl | assumption | omega) (by first | rfl | assumption | omega) (by first | rfl | assumption | omega) (by first | rfl | assumption | omega) (by omega) s.heap.size) (cwV 0 hts gX6_one_X6_look rfl rfl rfl (by decide +kernel) ⟨Nat.le_of_ble_eq_true rfl, Nat.le_of_ble_eq_true rfl⟩) (zpV hK hN hZ hP hD hS hA [0, 1] rfl (by decide) 0 rfl rfl rfl) rfl rfl hl.1 rfl (lv_room (Nat.le_of_ble_eq_true rfl)) dX6_one_1 ⟨Nat.zero_le _, Nat.zero_le _⟩) ?_
    refine zrw (if_neg hpL) ?_
    refine lv_istore_n (lv' := [(1, .int ((-1))), (0, .ref h)]) hx hb dX6_one_4 rfl hl (by decide) rfl (fun ls hl => ?_)
    refine lv_aload_n hx hb dX6_one_5 rfl (lv_at hl 1 rfl) ?_
    refine lv_iload_n hx hb dX6_one_6 rfl (lv_at hl 0 rfl) ?_
    refine zcsE (va_runV (As := [.int ((-1))]) (rest := []) ⟨hx, hb, hml, hown, hts⟩ (c_X6_isName_o l D cI cJ h m0 m1 m2 m4 m9 m10 m11 m13 m16 m17 m18 m19 i3 tn sp pt u p 2 c (by first | rfl | assumption | omega) s.heap.size) (cwV 1 hts gX6_one_X6_isName rfl rfl rfl (by decide +kernel) ⟨Nat.le_of_ble_eq_true rfl, Nat.le_of_ble_eq_true rfl⟩) (zpV hK hN hZ hP hD hS hA [0] rfl (by decide) 0 rfl rfl rfl) rfl rfl hl.1 rfl (lv_room (Nat.le_of_ble_eq_true rfl)) dX6_one_7 ⟨Nat.zero_le _, Nat.zero_le _⟩) ?_
    refine lv_if_eq (tgt := 31) hx hb dX6_one_10 (by decide) (fun c10_46 => ?_) (fun c10_46 => ?_)
    · have c10_46 : 0 = 0 := (nI_eq (a := 0) (b := 0) (by omega) (by omega)).mp c10_46
      refine lv_iload_n hx hb dX6_one_31 rfl (lv_at hl 0 rfl) ?_
      refine lv_bipush (v := nI 48) hx hb dX6_one_32 (by decide) ?_
      refine lv_bipush (v := nI 57) hx hb dX6_one_34 (by decide) ?_
      refine zcsE (va_runS (As := [.int ((-1)), .int (nI 48), .int (nI 57)]) (rest := []) ⟨hx, hb, hml, hown, hts⟩ (d_X6_in l D cI cJ ((-1)) (nI 48) (nI 57) 48 57 (by decide) (by decide) s.heap.size) (va_cwS 3 hts gX6_one_X6_in rfl rfl rfl (by decide +kernel) ⟨Nat.le_of_ble_eq_true rfl, Nat.le_of_ble_eq_true rfl⟩) (zpS hK hN hZ hP hD hS hA [] rfl (by decide)) rfl rfl hl.1 rfl (lv_room (Nat.le_of_ble_eq_true rfl)) dX6_one_36 ⟨Nat.zero_le _, Nat.zero_le _⟩) ?_
      refine lv_if_eq (tgt := 102) hx hb dX6_one_39 (by decide) (fun c39_47 => ?_) (fun c39_47 => ?_)
      · have c39_47 := bI_0.mp c39_47
        refine lv_iload_n hx hb dX6_one_102 rfl (lv_at hl 0 rfl) ?_
        refine lv_bipush (v := nI 33) hx hb dX6_one_103 (by decide) ?_
        refine lv_icmp_ne (tgt := 142) hx hb dX6_one_105 (by decide) (fun c105_48 => ?_) (fun c105_48 => ?_)
        · refine lv_iload_n hx hb dX6_one_142 rfl (lv_at hl 0 rfl) ?_
          refine lv_bipush (v := nI 40) hx hb dX6_one_143 (by decide) ?_
          refine lv_icmp_ne (tgt := 171) hx hb dX6_one_145 (by decide) (fun c145_49 => ?_) (fun c145_49 => ?_)
          · refine lv_iconst (v := nI 0) hx hb dX6_one_171 (by decide) ?_
            exact hret hP hD hS dX6_one_172 rfl (by obtain ⟨e1, e2⟩ := zq_o hR (by omega); subst e1; subst e2; exact ⟨_, _, _, hcp, fun h9 => (by cases h9), (bI_f (by decide)).symm, rfl⟩)
          · exact absurd c145_49 (by decide)
        · exact absurd c105_48 (by decide)
      · have c39_47 := bI_n0.mp c39_47
        exact absurd c39_47 (by decide)
    · have c10_46 : ¬ (0 = 0) := fun h9 => c10_46 ((nI_eq (a := 0) (b := 0) (by omega) (by omega)).mpr h9)
      exact absurd c10_46 (by omega)
set_option maxHeartbeats 4000000 in
set_option maxRecDepth 100000 in
theorem c_X6_product_2 (l : Launch) (D : va_G) (cI cJ : ClassId) (h : Nat) (m0 : Nat) (m1 : Nat) (m2 : Nat) (m4 : Nat) (m9 : Nat) (m10 : Nat) (m11 : Nat) (m13 : Nat) (m16 : Nat) (m17 : Nat) (m18 : Nat) (m19 : Nat) (i3 : Int32) (tn : Nat) (sp : Nat) (pt : Nat) (S : Nat → Int32) (ST : Nat → Int32) (L : Nat) (u : Nat) (T : Nat → Nat) (p : Nat) (c : Nat) (b : Bool) (q : Nat) (tl : zTks) (hL : L ≤ 60) (hu1 : u ≤ 1) (hT : ∀ i, i < L → T i < 256) (htb : ∀ i, i < L → S (296 + i) = nI (T i)) (hS4 : S 4 = nI L) (hp : p ≤ L) (hcp : c ≤ p) (hR : zLS T L (zQ T L u 3) 1 p = (b, q, tl)) : zMi l yX6_product wsX6_product ({ frames := 20, cells := 0, slots := 0, locals := 423 } : Room) D [(cI, .int), (cJ, .array .int)] [.ref h] [(h, .inr (6, [.ref m0, .ref m1, .ref m2, .int i3, .ref m4, .int (nI p), .int (nI 2), .int (nI c), .int (nI u), .ref m9, .ref m10, .ref m11, .int (nI tn), .ref m13, .int (nI sp), .int (nI pt), .ref m16, .ref m17, .ref m18, .ref m19])), (m0, .inl (cI, 380, .inl S)), (m9, .inl (cI, 124, .inl ST))] (fun r w => ∃ (c9 o9 : Nat) (ST9 : Nat → Int32), c9 ≤ q ∧ (b = true → c9 = c + tl.length ∧ ST9 = zap2 u ST c tl ∧ o9 = 2) ∧ r = bI (b = true) ∧ w = [(h, .inr (6, [.ref m0, .ref m1, .ref m2, .int i3, .ref m4, .int (nI q), .int (nI o9), .int (nI c9), .int (nI u), .ref m9, .ref m10, .ref m11, .int (nI tn), .ref m13, .int (nI sp), .int (nI pt), .ref m16, .ref m17, .ref m18, .ref m19])), (m0, .inl (cI, 380, .inl S)), (m9, .inl (cI, 124, .inl ST9))]) := by
  refine zMi.start (cc := cX6_product) (maxL := 2) (rt := .boolean) (by first | decide | decide +kernel) rfl (Nat.le_of_ble_eq_true rfl) ?_
  intro pg ev s mt args below meth cd ls AA QQ ⟨hx, hb, hml, hr, hlocks, hown, hts, hK, hN, hZ, hP, hD, hA, hS, hl⟩ hret
  have hown : s.vm.findClass RX6 = some mt.cls := hown
  have hl : lv_has ls 2 [(0, .ref h)] := hl
  have hin6 : ∀ w ∈ wsX60, w ∈ wsX6_product := fun w h => List.mem_cons_of_mem _ (List.mem_append_right _ (h))
  have hR : zLv T L 4 (zLS T L (zQ T L u 3) 0) p = (b, q, tl) := hR
  obtain ⟨b1, q1, t1, hR1⟩ : ∃ (b0 : Bool) (q0 : Nat) (t0 : zTks), zLS T L (zQ T L u 3) 0 p = (b0, q0, t0) := ⟨_, _, _, rfl⟩
  have hg1 := (zLS_gd (T := T) (zQ_gd (T := T) (L := L) (u := u) 3) 0) p (by omega)
  rw [hR1] at hg1
  obtain ⟨hga1, hgb1, hgc1⟩ : p ≤ q1 ∧ q1 ≤ L ∧ (b1 = true → p < q1 ∧ t1.length ≤ q1 - p ∧ zw1 t1) := hg1
  refine lv_aload_n hx hb dX6_product_0 rfl (lv_at hl 0 rfl) ?_
  refine zci (wr := []) (va_runV (As := []) (rest := []) ⟨hx, hb, hml, hown, hts⟩ (c_X6_one_2 l D cI cJ h m0 m1 m2 m4 m9 m10 m11 m13 m16 m17 m18 m19 i3 tn sp pt S ST L u T p c b1 q1 t1 (by first | rfl | assumption | omega) (by first | rfl | assumption | omega) (by first | rfl | assumption | omega) (by first | rfl | assumption | omega) (by first | rfl | assumption | omega) (by first | rfl | assumption | omega) (by first | rfl | assumption | omega) hR1 s.heap.size) (cwV 0 hts gX6_product_X6_one rfl rfl rfl (by decide +kernel) ⟨Nat.le_of_ble_eq_true rfl, Nat.le_of_ble_eq_true rfl⟩) (zpV hK hN hZ hP hD hS hA [0, 1, 2] rfl (by decide) 0 rfl rfl rfl) rfl rfl hl.1 rfl (lv_room (Nat.le_of_ble_eq_true rfl)) dX6_product_1 ⟨Nat.zero_le _, Nat.zero_le _⟩) hP hD hS hA [0, 1, 2] [] rfl rfl (by decide) (by decide) (fun r_3 w_2 H locs h_1 hP hD hS => ?_)
  obtain ⟨c9_4, o9_5, ST9_6, hq9_7, hx9_8, rfl, rfl⟩ := h_1
  have hP : va_P D vwCl [(h, .inr (6, [.ref m0, .ref m1, .ref m2, .int i3, .ref m4, .int (nI q1), .int (nI o9_5), .int (nI c9_4), .int (nI u), .ref m9, .ref m10, .ref m11, .int (nI tn), .ref m13, .int (nI sp), .int (nI pt), .ref m16, .ref m17, .ref m18, .ref m19])), (m0, .inl (cI, 380, .inl S)), (m9, .inl (cI, 124, .inl ST9_6))] H := hP
  have hD : va_D AA [(h, .inr (6, [.ref m0, .ref m1, .ref m2, .int i3, .ref m4, .int (nI q1), .int (nI o9_5), .int (nI c9_4), .int (nI u), .ref m9, .ref m10, .ref m11, .int (nI tn), .ref m13, .int (nI sp), .int (nI pt), .ref m16, .ref m17, .ref m18, .ref m19])), (m0, .inl (cI, 380, .inl S)), (m9, .inl (cI, 124, .inl ST9_6))] := hD
  refine lv_if_ne (tgt := 9) hx hb dX6_product_4 (by decide) (fun c4_9 => ?_) (fun c4_9 => ?_)
  · have c4_9 := bI_n0.mp c4_9
    obtain ⟨hgd1, hge1, hgf1⟩ := hgc1 c4_9
    obtain ⟨he1, hE1, ho1⟩ := hx9_8 c4_9
    subst he1; subst hE1; subst ho1
    have hz := zLv_tt hR hR1 c4_9
    have L_9 : ∀ (fu : Nat) (f : Nat) (pv : Nat) (ta : zTks) (hn : f < fu) (hz : zct ta (zLp T L 4 (zLS T L (zQ T L u 3) 0) f pv) = (b, q, tl)) (hf : L - pv < f) (hpv : pv ≤ L) (hca : c + ta.length ≤ pv), ∀ (ls : Array Slot), lv_has ls 2 [(0, .ref h)] → ∀ (H : Heap) (locs : List Loc), va_P D vwCl [(h, .inr (6, [.ref m0, .ref m1, .ref m2, .int i3, .ref m4, .int (nI pv), .int (nI 2), .int (nI ((c + ta.length))), .int (nI u), .ref m9, .ref m10, .ref m11, .int (nI tn), .ref m13, .int (nI sp), .int (nI pt), .ref m16, .ref m17, .ref m18, .ref m19])), (m0, .inl (cI, 380, .inl S)), (m9, .inl (cI, 124, .inl (zap2 u ST c ta)))] H → va_D AA [(h, .inr (6, [.ref m0, .ref m1, .ref m2, .int i3, .ref m4, .int (nI pv), .int (nI 2), .int (nI ((c + ta.length))), .int (nI u), .ref m9, .ref m10, .ref m11, .int (nI tn), .ref m13, .int (nI sp), .int (nI pt), .ref m16, .ref m17, .ref m18, .ref m19])), (m0, .inl (cI, 380, .inl S)), (m9, .inl (cI, 124, .inl (zap2 u ST c ta)))] → va_S AA s.heap H locs → W pg l ev ({ frames := 20, cells := 0, slots := 0, locals := 423 } : Room) s mt args below meth cd H locs 0 0 QQ (F0 mt 9 ls []) := by
      intro fu
      induction fu with
      | zero =>
        intro  f pv ta  hn
        exact absurd hn (by omega)
      | succ fu ih_9 =>
        intro  f pv ta  hn hz hf hpv hca ls hl H locs hP hD hS
        obtain ⟨f1, rfl⟩ : ∃ f1, f = f1 + 1 := ⟨f - 1, by omega⟩
        refine lv_aload_n hx hb dX6_product_9 rfl (lv_at hl 0 rfl) ?_
        by_cases hpL : pv < L
        · refine zcsE (va_runV (As := []) (rest := []) ⟨hx, hb, hml, hown, hts⟩ (c_X6_look l D cI cJ h m0 m1 m2 m4 m9 m10 m11 m13 m16 m17 m18 m19 i3 tn sp pt S ST L u T pv ((c + ta.length)) 2 (by first | rfl | assumption | omega) (by first | rfl | assumption | omega) (by first | rfl | assumption | omega) (by first | rfl | assumption | omega) (by first | rfl | assumption | omega) (by omega) H.size) (cwV 0 hts gX6_product_X6_look rfl rfl rfl (by decide +kernel) ⟨Nat.le_of_ble_eq_true rfl, Nat.le_of_ble_eq_true rfl⟩) (zpV hK hN hZ hP hD hS hA [0, 1] rfl (by decide) 0 rfl rfl rfl) rfl rfl hl.1 rfl (lv_room (Nat.le_of_ble_eq_true rfl)) dX6_product_10 ⟨Nat.zero_le _, Nat.zero_le _⟩) ?_
          refine zrw (if_pos hpL) ?_
          refine lv_bipush (v := nI 42) hx hb dX6_product_13 (by decide) ?_
          refine lv_icmp_eq (tgt := 36) hx hb dX6_product_15 (by decide) (fun c15_10 => ?_) (fun c15_10 => ?_)
          · have c15_10 : (T pv) = 42 := (nI_eq (a := T pv) (b := 42) (by have h91 := hT pv (by omega); omega) (by have h91 := hT pv (by omega); omega)).mp c15_10
            refine lv_aload_n hx hb dX6_product_36 rfl (lv_at hl 0 rfl) ?_
            refine zcsE (va_runV (As := []) (rest := []) ⟨hx, hb, hml, hown, hts⟩ (c_X6_look l D cI cJ h m0 m1 m2 m4 m9 m10 m11 m13 m16 m17 m18 m19 i3 tn sp pt S ST L u T pv ((c + ta.length)) 2 (by first | rfl | assumption | omega) (by first | rfl | assumption | omega) (by first | rfl | assumption | omega) (by first | rfl | assumption | omega) (by first | rfl | assumption | omega) (by omega) H.size) (cwV 0 hts gX6_product_X6_look rfl rfl rfl (by decide +kernel) ⟨Nat.le_of_ble_eq_true rfl, Nat.le_of_ble_eq_true rfl⟩) (zpV hK hN hZ hP hD hS hA [0, 1] rfl (by decide) 0 rfl rfl rfl) rfl rfl hl.1 rfl (lv_room (Nat.le_of_ble_eq_true rfl)) dX6_product_37 ⟨Nat.zero_le _, Nat.zero_le _⟩) ?_
            refine zrw (if_pos hpL) ?_
            refine lv_istore_n (lv' := [(1, .int (nI (T pv))), (0, .ref h)]) hx hb dX6_product_40 rfl hl (by decide) rfl (fun ls hl => ?_)
            refine lv_aload_n hx hb dX6_product_41 rfl (lv_at hl 1 rfl) ?_
            refine lv_dup hx hb dX6_product_42 rfl ?_
            refine va_get (ci := 6) (v := .int (nI pv)) (C := RX6) (T := TX6) (N := 20) hx hb hts hin6 hown hK hP 0 rfl rfl 5 (by decide) (hts (.fieldLink RX6 61 "UpAllRoundModel" "at" "I") (List.mem_of_getElem? (i := 1) rfl)) (fun _ h9 => h9) rfl dX6_product_43 ?_
            refine lv_iconst (v := nI 1) hx hb dX6_product_46 (by decide) ?_
            refine lv_iadd hx hb dX6_product_47 ?_
            refine zrw (nI_add _ _) ?_
            refine va_put (ci := 6) (v := .int (nI (pv + 1))) (ty := .int) (C := RX6) (T := TX6) (N := 20) hx hb hts hin6 tyX6 tyX6_ok nmX6 hown hK hP hD hS 0 rfl rfl 5 (by decide) (hts (.fieldLink RX6 61 "UpAllRoundModel" "at" "I") (List.mem_of_getElem? (i := 1) rfl)) (fun _ h9 => h9) rfl (by decide +kernel) rfl rfl (Nat.le_of_ble_eq_true rfl) dX6_product_48 (fun H locs hP hD hS => ?_)
            have hP : va_P D vwCl [(h, .inr (6, [.ref m0, .ref m1, .ref m2, .int i3, .ref m4, .int (nI (pv + 1)), .int (nI 2), .int (nI ((c + ta.length))), .int (nI u), .ref m9, .ref m10, .ref m11, .int (nI tn), .ref m13, .int (nI sp), .int (nI pt), .ref m16, .ref m17, .ref m18, .ref m19])), (m0, .inl (cI, 380, .inl S)), (m9, .inl (cI, 124, .inl (zap2 u ST c ta)))] H := hP
            have hD : va_D AA [(h, .inr (6, [.ref m0, .ref m1, .ref m2, .int i3, .ref m4, .int (nI (pv + 1)), .int (nI 2), .int (nI ((c + ta.length))), .int (nI u), .ref m9, .ref m10, .ref m11, .int (nI tn), .ref m13, .int (nI sp), .int (nI pt), .ref m16, .ref m17, .ref m18, .ref m19])), (m0, .inl (cI, 380, .inl S)), (m9, .inl (cI, 124, .inl (zap2 u ST c ta)))] := hD
            refine lv_aload_n hx hb dX6_product_51 rfl (lv_at hl 1 rfl) ?_
            obtain ⟨b2, q2, t2, hR2⟩ : ∃ (b0 : Bool) (q0 : Nat) (t0 : zTks), zLS T L (zQ T L u 3) 0 (pv + 1) = (b0, q0, t0) := ⟨_, _, _, rfl⟩
            have hg2 := (zLS_gd (T := T) (zQ_gd (T := T) (L := L) (u := u) 3) 0) (pv + 1) (by omega)
            rw [hR2] at hg2
            obtain ⟨hga2, hgb2, hgc2⟩ : (pv + 1) ≤ q2 ∧ q2 ≤ L ∧ (b2 = true → (pv + 1) < q2 ∧ t2.length ≤ q2 - (pv + 1) ∧ zw1 t2) := hg2
            refine zci (wr := []) (va_runV (As := []) (rest := []) ⟨hx, hb, hml, hown, hts⟩ (c_X6_one_2 l D cI cJ h m0 m1 m2 m4 m9 m10 m11 m13 m16 m17 m18 m19 i3 tn sp pt S (zap2 u ST c ta) L u T (pv + 1) ((c + ta.length)) b2 q2 t2 (by first | rfl | assumption | omega) (by first | rfl | assumption | omega) (by first | rfl | assumption | omega) (by first | rfl | assumption | omega) (by first | rfl | assumption | omega) (by omega) (by omega) hR2 H.size) (cwV 0 hts gX6_product_X6_one rfl rfl rfl (by decide +kernel) ⟨Nat.le_of_ble_eq_true rfl, Nat.le_of_ble_eq_true rfl⟩) (zpV hK hN hZ hP hD hS hA [0, 1, 2] rfl (by decide) 0 rfl rfl rfl) rfl rfl hl.1 rfl (lv_room (Nat.le_of_ble_eq_true rfl)) dX6_product_52 ⟨Nat.zero_le _, Nat.zero_le _⟩) hP hD hS hA [0, 1, 2] [] rfl rfl (by decide) (by decide) (fun r_13 w_12 H locs h_11 hP hD hS => ?_)
            obtain ⟨c9_14, o9_15, ST9_16, hq9_17, hx9_18, rfl, rfl⟩ := h_11
            have hP : va_P D vwCl [(h, .inr (6, [.ref m0, .ref m1, .ref m2, .int i3, .ref m4, .int (nI q2), .int (nI o9_15), .int (nI c9_14), .int (nI u), .ref m9, .ref m10, .ref m11, .int (nI tn), .ref m13, .int (nI sp), .int (nI pt), .ref m16, .ref m17, .ref m18, .ref m19])), (m0, .inl (cI, 380, .inl S)), (m9, .inl (cI, 124, .inl ST9_16))] H := hP
            have hD : va_D AA [(h, .inr (6, [.ref m0, .ref m1, .ref m2, .int i3, .ref m4, .int (nI q2), .int (nI o9_15), .int (nI c9_14), .int (nI u), .ref m9, .ref m10, .ref m11, .int (nI tn), .ref m13, .int (nI sp), .int (nI pt), .ref m16, .ref m17, .ref m18, .ref m19])), (m0, .inl (cI, 380, .inl S)), (m9, .inl (cI, 124, .inl ST9_16))] := hD
            refine lv_if_ne (tgt := 60) hx hb dX6_product_55 (by decide) (fun c55_19 => ?_) (fun c55_19 => ?_)
            · have c55_19 := bI_n0.mp c55_19
              obtain ⟨hgd2, hge2, hgf2⟩ := hgc2 c55_19
              obtain ⟨he2, hE2, ho2⟩ := hx9_18 c55_19
              subst he2; subst hE2; subst ho2
              refine lv_aload_n hx hb dX6_product_60 rfl (lv_at hl 1 rfl) ?_
              refine lv_iconst (v := nI 3) hx hb dX6_product_61 (by decide) ?_
              refine lv_iload_n hx hb dX6_product_62 rfl (lv_at hl 0 rfl) ?_
              refine zcv (wr := [(m0, .inl (cI, 380, .inl S))]) (va_runV (As := [.int (nI 3), .int (nI (T pv))]) (rest := []) ⟨hx, hb, hml, hown, hts⟩ (c_X6_step1 l D cI cJ h m0 m1 m2 m4 m9 m10 m11 m13 m16 m17 m18 m19 i3 tn sp pt u q2 2 ((c + ta.length + t2.length)) (zap2 u (zap2 u ST c ta) (c + ta.length) t2) 3 (nI (T pv)) (by omega) H.size) (cwV 2 hts gX6_product_X6_step1 rfl rfl rfl (by decide +kernel) ⟨Nat.le_of_ble_eq_true rfl, Nat.le_of_ble_eq_true rfl⟩) (zpV hK hN hZ hP hD hS hA [0, 2] rfl (by decide) 0 rfl rfl rfl) rfl rfl hl.1 rfl (lv_room (Nat.le_of_ble_eq_true rfl)) dX6_product_63 ⟨Nat.zero_le _, Nat.zero_le _⟩) hP hD hS hA [0, 2] [1] rfl rfl (by decide) (by decide) (fun w_21 H locs h_20 hP hD hS => ?_)
              obtain rfl := h_20
              have hP : va_P D vwCl [(m0, .inl (cI, 380, .inl S)), (h, .inr (6, [.ref m0, .ref m1, .ref m2, .int i3, .ref m4, .int (nI q2), .int (nI 2), .int (nI ((((c + ta.length + t2.length)) + 1))), .int (nI u), .ref m9, .ref m10, .ref m11, .int (nI tn), .ref m13, .int (nI sp), .int (nI pt), .ref m16, .ref m17, .ref m18, .ref m19])), (m9, .inl (cI, 124, .inl ((upd (upd (zap2 u (zap2 u ST c ta) (c + ta.length) t2) (2 * ((c + ta.length + t2.length))) (nI 3)) (2 * ((c + ta.length + t2.length)) + 1) (nI (T pv))))))] H := hP
              have hD : va_D AA [(m0, .inl (cI, 380, .inl S)), (h, .inr (6, [.ref m0, .ref m1, .ref m2, .int i3, .ref m4, .int (nI q2), .int (nI 2), .int (nI ((((c + ta.length + t2.length)) + 1))), .int (nI u), .ref m9, .ref m10, .ref m11, .int (nI tn), .ref m13, .int (nI sp), .int (nI pt), .ref m16, .ref m17, .ref m18, .ref m19])), (m9, .inl (cI, 124, .inl ((upd (upd (zap2 u (zap2 u ST c ta) (c + ta.length) t2) (2 * ((c + ta.length + t2.length))) (nI 3)) (2 * ((c + ta.length + t2.length)) + 1) (nI (T pv))))))] := hD
              refine lv_goto (tgt := 9) hx hb dX6_product_66 (by decide) ?_
              rw [zap23, zlen1 (t := (3, T pv))] at hP hD
              exact ih_9   f1 q2 ((ta ++ (t2 ++ [(3, T pv)]))) (by omega) (zLt (by decide) hz ⟨by omega, zlv_4.mpr (by omega)⟩ hR2 (by assumption)) (by omega) (by omega) (by rw [← zlen1]; omega) ls (lv_sub hl [1] rfl) H locs (hP.sub [1, 0, 2] rfl) (hD.sub [1, 0, 2] (by decide) rfl) hS
            · have c55_19 := bI_0.mp c55_19
              refine lv_iconst (v := nI 0) hx hb dX6_product_58 (by decide) ?_
              exact hret hP hD hS dX6_product_59 rfl (by obtain ⟨e1, e2⟩ := zLf hz ⟨by omega, zlv_4.mpr (by omega)⟩ hR2 (by assumption); subst e1; subst e2; exact ⟨_, _, _, hq9_17, fun h9 => (by cases h9), (bI_f (by decide)).symm, rfl⟩)
          · have c15_10 : ¬ ((T pv) = 42) := fun h9 => c15_10 ((nI_eq (a := T pv) (b := 42) (by have h91 := hT pv (by omega); omega) (by have h91 := hT pv (by omega); omega)).mpr h9)
            refine lv_aload_n hx hb dX6_product_18 rfl (lv_at hl 0 rfl) ?_
            refine zcsE (va_runV (As := []) (rest := []) ⟨hx, hb, hml, hown, hts⟩ (c_X6_look l D cI cJ h m0 m1 m2 m4 m9 m10 m11 m13 m16 m17 m18 m19 i3 tn sp pt S ST L u T pv ((c + ta.length)) 2 (by first | rfl | assumption | omega) (by first | rfl | assumption | omega) (by first | rfl | assumption | omega) (by first | rfl | assumption | omega) (by first | rfl | assumption | omega) (by omega) H.size) (cwV 0 hts gX6_product_X6_look rfl rfl rfl (by decide +kernel) ⟨Nat.le_of_ble_eq_true rfl, Nat.le_of_ble_eq_true rfl⟩) (zpV hK hN hZ hP hD hS hA [0, 1] rfl (by decide) 0 rfl rfl rfl) rfl rfl hl.1 rfl (lv_room (Nat.le_of_ble_eq_true rfl)) dX6_product_19 ⟨Nat.zero_le _, Nat.zero_le _⟩) ?_
            refine zrw (if_pos hpL) ?_
            refine lv_bipush (v := nI 47) hx hb dX6_product_22 (by decide) ?_
            refine lv_icmp_eq (tgt := 36) hx hb dX6_product_24 (by decide) (fun c24_22 => ?_) (fun c24_22 => ?_)
            · have c24_22 : (T pv) = 47 := (nI_eq (a := T pv) (b := 47) (by have h91 := hT pv (by omega); omega) (by have h91 := hT pv (by omega); omega)).mp c24_22
              refine lv_aload_n hx hb dX6_product_36 rfl (lv_at hl 0 rfl) ?_
              refine zcsE (va_runV (As := []) (rest := []) ⟨hx, hb, hml, hown, hts⟩ (c_X6_look l D cI cJ h m0 m1 m2 m4 m9 m10 m11 m13 m16 m17 m18 m19 i3 tn sp pt S ST L u T pv ((c + ta.length)) 2 (by first | rfl | assumption | omega) (by first | rfl | assumption | omega) (by first | rfl | assumption | omega) (by first | rfl | assumption | omega) (by first | rfl | assumption | omega) (by omega) H.size) (cwV 0 hts gX6_product_X6_look rfl rfl rfl (by decide +kernel) ⟨Nat.le_of_ble_eq_true rfl, Nat.le_of_ble_eq_true rfl⟩) (zpV hK hN hZ hP hD hS hA [0, 1] rfl (by decide) 0 rfl rfl rfl) rfl rfl hl.1 rfl (lv_room (Nat.le_of_ble_eq_true rfl)) dX6_product_37 ⟨Nat.zero_le _, Nat.zero_le _⟩) ?_
              refine zrw (if_pos hpL) ?_
              refine lv_istore_n (lv' := [(1, .int (nI (T pv))), (0, .ref h)]) hx hb dX6_product_40 rfl hl (by decide) rfl (fun ls hl => ?_)
              refine lv_aload_n hx hb dX6_product_41 rfl (lv_at hl 1 rfl) ?_
              refine lv_dup hx hb dX6_product_42 rfl ?_
              refine va_get (ci := 6) (v := .int (nI pv)) (C := RX6) (T := TX6) (N := 20) hx hb hts hin6 hown hK hP 0 rfl rfl 5 (by decide) (hts (.fieldLink RX6 61 "UpAllRoundModel" "at" "I") (List.mem_of_getElem? (i := 1) rfl)) (fun _ h9 => h9) rfl dX6_product_43 ?_
              refine lv_iconst (v := nI 1) hx hb dX6_product_46 (by decide) ?_
              refine lv_iadd hx hb dX6_product_47 ?_
              refine zrw (nI_add _ _) ?_
              refine va_put (ci := 6) (v := .int (nI (pv + 1))) (ty := .int) (C := RX6) (T := TX6) (N := 20) hx hb hts hin6 tyX6 tyX6_ok nmX6 hown hK hP hD hS 0 rfl rfl 5 (by decide) (hts (.fieldLink RX6 61 "UpAllRoundModel" "at" "I") (List.mem_of_getElem? (i := 1) rfl)) (fun _ h9 => h9) rfl (by decide +kernel) rfl rfl (Nat.le_of_ble_eq_true rfl) dX6_product_48 (fun H locs hP hD hS => ?_)
              have hP : va_P D vwCl [(h, .inr (6, [.ref m0, .ref m1, .ref m2, .int i3, .ref m4, .int (nI (pv + 1)), .int (nI 2), .int (nI ((c + ta.length))), .int (nI u), .ref m9, .ref m10, .ref m11, .int (nI tn), .ref m13, .int (nI sp), .int (nI pt), .ref m16, .ref m17, .ref m18, .ref m19])), (m0, .inl (cI, 380, .inl S)), (m9, .inl (cI, 124, .inl (zap2 u ST c ta)))] H := hP
              have hD : va_D AA [(h, .inr (6, [.ref m0, .ref m1, .ref m2, .int i3, .ref m4, .int (nI (pv + 1)), .int (nI 2), .int (nI ((c + ta.length))), .int (nI u), .ref m9, .ref m10, .ref m11, .int (nI tn), .ref m13, .int (nI sp), .int (nI pt), .ref m16, .ref m17, .ref m18, .ref m19])), (m0, .inl (cI, 380, .inl S)), (m9, .inl (cI, 124, .inl (zap2 u ST c ta)))] := hD
              refine lv_aload_n hx hb dX6_product_51 rfl (lv_at hl 1 rfl) ?_
              obtain ⟨b2, q2, t2, hR2⟩ : ∃ (b0 : Bool) (q0 : Nat) (t0 : zTks), zLS T L (zQ T L u 3) 0 (pv + 1) = (b0, q0, t0) := ⟨_, _, _, rfl⟩
              have hg2 := (zLS_gd (T := T) (zQ_gd (T := T) (L := L) (u := u) 3) 0) (pv + 1) (by omega)
              rw [hR2] at hg2
              obtain ⟨hga2, hgb2, hgc2⟩ : (pv + 1) ≤ q2 ∧ q2 ≤ L ∧ (b2 = true → (pv + 1) < q2 ∧ t2.length ≤ q2 - (pv + 1) ∧ zw1 t2) := hg2
              refine zci (wr := []) (va_runV (As := []) (rest := []) ⟨hx, hb, hml, hown, hts⟩ (c_X6_one_2 l D cI cJ h m0 m1 m2 m4 m9 m10 m11 m13 m16 m17 m18 m19 i3 tn sp pt S (zap2 u ST c ta) L u T (pv + 1) ((c + ta.length)) b2 q2 t2 (by first | rfl | assumption | omega) (by first | rfl | assumption | omega) (by first | rfl | assumption | omega) (by first | rfl | assumption | omega) (by first | rfl | assumption | omega) (by omega) (by omega) hR2 H.size) (cwV 0 hts gX6_product_X6_one rfl rfl rfl (by decide +kernel) ⟨Nat.le_of_ble_eq_true rfl, Nat.le_of_ble_eq_true rfl⟩) (zpV hK hN hZ hP hD hS hA [0, 1, 2] rfl (by decide) 0 rfl rfl rfl) rfl rfl hl.1 rfl (lv_room (Nat.le_of_ble_eq_true rfl)) dX6_product_52 ⟨Nat.zero_le _, Nat.zero_le _⟩) hP hD hS hA [0, 1, 2] [] rfl rfl (by decide) (by decide) (fun r_25 w_24 H locs h_23 hP hD hS => ?_)
              obtain ⟨c9_26, o9_27, ST9_28, hq9_29, hx9_30, rfl, rfl⟩ := h_23
              have hP : va_P D vwCl [(h, .inr (6, [.ref m0, .ref m1, .ref m2, .int i3, .ref m4, .int (nI q2), .int (nI o9_27), .int (nI c9_26), .int (nI u), .ref m9, .ref m10, .ref m11, .int (nI tn), .ref m13, .int (nI sp), .int (nI pt), .ref m16, .ref m17, .ref m18, .ref m19])), (m0, .inl (cI, 380, .inl S)), (m9, .inl (cI, 124, .inl ST9_28))] H := hP
              have hD : va_D AA [(h, .inr (6, [.ref m0, .ref m1, .ref m2, .int i3, .ref m4, .int (nI q2), .int (nI o9_27), .int (nI c9_26), .int (nI u), .ref m9, .ref m10, .ref m11, .int (nI tn), .ref m13, .int (nI sp), .int (nI pt), .ref m16, .ref m17, .ref m18, .ref m19])), (m0, .inl (cI, 380, .inl S)), (m9, .inl (cI, 124, .inl ST9_28))] := hD
              refine lv_if_ne (tgt := 60) hx hb dX6_product_55 (by decide) (fun c55_31 => ?_) (fun c55_31 => ?_)
              · have c55_31 := bI_n0.mp c55_31
                obtain ⟨hgd2, hge2, hgf2⟩ := hgc2 c55_31
                obtain ⟨he2, hE2, ho2⟩ := hx9_30 c55_31
                subst he2; subst hE2; subst ho2
                refine lv_aload_n hx hb dX6_product_60 rfl (lv_at hl 1 rfl) ?_
                refine lv_iconst (v := nI 3) hx hb dX6_product_61 (by decide) ?_
                refine lv_iload_n hx hb dX6_product_62 rfl (lv_at hl 0 rfl) ?_
                refine zcv (wr := [(m0, .inl (cI, 380, .inl S))]) (va_runV (As := [.int (nI 3), .int (nI (T pv))]) (rest := []) ⟨hx, hb, hml, hown, hts⟩ (c_X6_step1 l D cI cJ h m0 m1 m2 m4 m9 m10 m11 m13 m16 m17 m18 m19 i3 tn sp pt u q2 2 ((c + ta.length + t2.length)) (zap2 u (zap2 u ST c ta) (c + ta.length) t2) 3 (nI (T pv)) (by omega) H.size) (cwV 2 hts gX6_product_X6_step1 rfl rfl rfl (by decide +kernel) ⟨Nat.le_of_ble_eq_true rfl, Nat.le_of_ble_eq_true rfl⟩) (zpV hK hN hZ hP hD hS hA [0, 2] rfl (by decide) 0 rfl rfl rfl) rfl rfl hl.1 rfl (lv_room (Nat.le_of_ble_eq_true rfl)) dX6_product_63 ⟨Nat.zero_le _, Nat.zero_le _⟩) hP hD hS hA [0, 2] [1] rfl rfl (by decide) (by decide) (fun w_33 H locs h_32 hP hD hS => ?_)
                obtain rfl := h_32
                have hP : va_P D vwCl [(m0, .inl (cI, 380, .inl S)), (h, .inr (6, [.ref m0, .ref m1, .ref m2, .int i3, .ref m4, .int (nI q2), .int (nI 2), .int (nI ((((c + ta.length + t2.length)) + 1))), .int (nI u), .ref m9, .ref m10, .ref m11, .int (nI tn), .ref m13, .int (nI sp), .int (nI pt), .ref m16, .ref m17, .ref m18, .ref m19])), (m9, .inl (cI, 124, .inl ((upd (upd (zap2 u (zap2 u ST c ta) (c + ta.length) t2) (2 * ((c + ta.length + t2.length))) (nI 3)) (2 * ((c + ta.length + t2.length)) + 1) (nI (T pv))))))] H := hP
                have hD : va_D AA [(m0, .inl (cI, 380, .inl S)), (h, .inr (6, [.ref m0, .ref m1, .ref m2, .int i3, .ref m4, .int (nI q2), .int (nI 2), .int (nI ((((c + ta.length + t2.length)) + 1))), .int (nI u), .ref m9, .ref m10, .ref m11, .int (nI tn), .ref m13, .int (nI sp), .int (nI pt), .ref m16, .ref m17, .ref m18, .ref m19])), (m9, .inl (cI, 124, .inl ((upd (upd (zap2 u (zap2 u ST c ta) (c + ta.length) t2) (2 * ((c + ta.length + t2.length))) (nI 3)) (2 * ((c + ta.length + t2.length)) + 1) (nI (T pv))))))] := hD
                refine lv_goto (tgt := 9) hx hb dX6_product_66 (by decide) ?_
                rw [zap23, zlen1 (t := (3, T pv))] at hP hD
                exact ih_9   f1 q2 ((ta ++ (t2 ++ [(3, T pv)]))) (by omega) (zLt (by decide) hz ⟨by omega, zlv_4.mpr (by omega)⟩ hR2 (by assumption)) (by omega) (by omega) (by rw [← zlen1]; omega) ls (lv_sub hl [1] rfl) H locs (hP.sub [1, 0, 2] rfl) (hD.sub [1, 0, 2] (by decide) rfl) hS
              · have c55_31 := bI_0.mp c55_31
                refine lv_iconst (v := nI 0) hx hb dX6_product_58 (by decide) ?_
                exact hret hP hD hS dX6_product_59 rfl (by obtain ⟨e1, e2⟩ := zLf hz ⟨by omega, zlv_4.mpr (by omega)⟩ hR2 (by assumption); subst e1; subst e2; exact ⟨_, _, _, hq9_29, fun h9 => (by cases h9), (bI_f (by decide)).symm, rfl⟩)
            · have c24_22 : ¬ ((T pv) = 47) := fun h9 => c24_22 ((nI_eq (a := T pv) (b := 47) (by have h91 := hT pv (by omega); omega) (by have h91 := hT pv (by omega); omega)).mpr h9)
              refine lv_aload_n hx hb dX6_product_27 rfl (lv_at hl 0 rfl) ?_
              refine zcsE (va_runV (As := []) (rest := []) ⟨hx, hb, hml, hown, hts⟩ (c_X6_look l D cI cJ h m0 m1 m2 m4 m9 m10 m11 m13 m16 m17 m18 m19 i3 tn sp pt S ST L u T pv ((c + ta.length)) 2 (by first | rfl | assumption | omega) (by first | rfl | assumption | omega) (by first | rfl | assumption | omega) (by first | rfl | assumption | omega) (by first | rfl | assumption | omega) (by omega) H.size) (cwV 0 hts gX6_product_X6_look rfl rfl rfl (by decide +kernel) ⟨Nat.le_of_ble_eq_true rfl, Nat.le_of_ble_eq_true rfl⟩) (zpV hK hN hZ hP hD hS hA [0, 1] rfl (by decide) 0 rfl rfl rfl) rfl rfl hl.1 rfl (lv_room (Nat.le_of_ble_eq_true rfl)) dX6_product_28 ⟨Nat.zero_le _, Nat.zero_le _⟩) ?_
              refine zrw (if_pos hpL) ?_
              refine lv_bipush (v := nI 37) hx hb dX6_product_31 (by decide) ?_
              refine lv_icmp_ne (tgt := 69) hx hb dX6_product_33 (by decide) (fun c33_34 => ?_) (fun c33_34 => ?_)
              · have c33_34 : ¬ ((T pv) = 37) := fun h9 => c33_34 ((nI_eq (a := T pv) (b := 37) (by have h91 := hT pv (by omega); omega) (by have h91 := hT pv (by omega); omega)).mpr h9)
                refine lv_iconst (v := nI 1) hx hb dX6_product_69 (by decide) ?_
                exact hret hP hD hS dX6_product_70 rfl (by obtain ⟨e1, e2, e3⟩ := zLe (f := f1) hz (fun h9 => by have h91 := h9.1; have h92 := zlv_4.mp h9.2; omega); subst e1; subst e2; subst e3; exact ⟨_, _, _, (by omega), fun _ => ⟨rfl, rfl, rfl⟩, (bI_t rfl).symm, rfl⟩)
              · have c33_34 : (T pv) = 37 := (nI_eq (a := T pv) (b := 37) (by have h91 := hT pv (by omega); omega) (by have h91 := hT pv (by omega); omega)).mp c33_34
                refine lv_aload_n hx hb dX6_product_36 rfl (lv_at hl 0 rfl) ?_
                refine zcsE (va_runV (As := []) (rest := []) ⟨hx, hb, hml, hown, hts⟩ (c_X6_look l D cI cJ h m0 m1 m2 m4 m9 m10 m11 m13 m16 m17 m18 m19 i3 tn sp pt S ST L u T pv ((c + ta.length)) 2 (by first | rfl | assumption | omega) (by first | rfl | assumption | omega) (by first | rfl | assumption | omega) (by first | rfl | assumption | omega) (by first | rfl | assumption | omega) (by omega) H.size) (cwV 0 hts gX6_product_X6_look rfl rfl rfl (by decide +kernel) ⟨Nat.le_of_ble_eq_true rfl, Nat.le_of_ble_eq_true rfl⟩) (zpV hK hN hZ hP hD hS hA [0, 1] rfl (by decide) 0 rfl rfl rfl) rfl rfl hl.1 rfl (lv_room (Nat.le_of_ble_eq_true rfl)) dX6_product_37 ⟨Nat.zero_le _, Nat.zero_le _⟩) ?_
                refine zrw (if_pos hpL) ?_
                refine lv_istore_n (lv' := [(1, .int (nI (T pv))), (0, .ref h)]) hx hb dX6_product_40 rfl hl (by decide) rfl (fun ls hl => ?_)
                refine lv_aload_n hx hb dX6_product_41 rfl (lv_at hl 1 rfl) ?_
                refine lv_dup hx hb dX6_product_42 rfl ?_
                refine va_get (ci := 6) (v := .int (nI pv)) (C := RX6) (T := TX6) (N := 20) hx hb hts hin6 hown hK hP 0 rfl rfl 5 (by decide) (hts (.fieldLink RX6 61 "UpAllRoundModel" "at" "I") (List.mem_of_getElem? (i := 1) rfl)) (fun _ h9 => h9) rfl dX6_product_43 ?_
                refine lv_iconst (v := nI 1) hx hb dX6_product_46 (by decide) ?_
                refine lv_iadd hx hb dX6_product_47 ?_
                refine zrw (nI_add _ _) ?_
                refine va_put (ci := 6) (v := .int (nI (pv + 1))) (ty := .int) (C := RX6) (T := TX6) (N := 20) hx hb hts hin6 tyX6 tyX6_ok nmX6 hown hK hP hD hS 0 rfl rfl 5 (by decide) (hts (.fieldLink RX6 61 "UpAllRoundModel" "at" "I") (List.mem_of_getElem? (i := 1) rfl)) (fun _ h9 => h9) rfl (by decide +kernel) rfl rfl (Nat.le_of_ble_eq_true rfl) dX6_product_48 (fun H locs hP hD hS => ?_)
                have hP : va_P D vwCl [(h, .inr (6, [.ref m0, .ref m1, .ref m2, .int i3, .ref m4, .int (nI (pv + 1)), .int (nI 2), .int (nI ((c + ta.length))), .int (nI u), .ref m9, .ref m10, .ref m11, .int (nI tn), .ref m13, .int (nI sp), .int (nI pt), .ref m16, .ref m17, .ref m18, .ref m19])), (m0, .inl (cI, 380, .inl S)), (m9, .inl (cI, 124, .inl (zap2 u ST c ta)))] H := hP
                have hD : va_D AA [(h, .inr (6, [.ref m0, .ref m1, .ref m2, .int i3, .ref m4, .int (nI (pv + 1)), .int (nI 2), .int (nI ((c + ta.length))), .int (nI u), .ref m9, .ref m10, .ref m11, .int (nI tn), .ref m13, .int (nI sp), .int (nI pt), .ref m16, .ref m17, .ref m18, .ref m19])), (m0, .inl (cI, 380, .inl S)), (m9, .inl (cI, 124, .inl (zap2 u ST c ta)))] := hD
                refine lv_aload_n hx hb dX6_product_51 rfl (lv_at hl 1 rfl) ?_
                obtain ⟨b2, q2, t2, hR2⟩ : ∃ (b0 : Bool) (q0 : Nat) (t0 : zTks), zLS T L (zQ T L u 3) 0 (pv + 1) = (b0, q0, t0) := ⟨_, _, _, rfl⟩
                have hg2 := (zLS_gd (T := T) (zQ_gd (T := T) (L := L) (u := u) 3) 0) (pv + 1) (by omega)
                rw [hR2] at hg2
                obtain ⟨hga2, hgb2, hgc2⟩ : (pv + 1) ≤ q2 ∧ q2 ≤ L ∧ (b2 = true → (pv + 1) < q2 ∧ t2.length ≤ q2 - (pv + 1) ∧ zw1 t2) := hg2
                refine zci (wr := []) (va_runV (As := []) (rest := []) ⟨hx, hb, hml, hown, hts⟩ (c_X6_one_2 l D cI cJ h m0 m1 m2 m4 m9 m10 m11 m13 m16 m17 m18 m19 i3 tn sp pt S (zap2 u ST c ta) L u T (pv + 1) ((c + ta.length)) b2 q2 t2 (by first | rfl | assumption | omega) (by first | rfl | assumption | omega) (by first | rfl | assumption | omega) (by first | rfl | assumption | omega) (by first | rfl | assumption | omega) (by omega) (by omega) hR2 H.size) (cwV 0 hts gX6_product_X6_one rfl rfl rfl (by decide +kernel) ⟨Nat.le_of_ble_eq_true rfl, Nat.le_of_ble_eq_true rfl⟩) (zpV hK hN hZ hP hD hS hA [0, 1, 2] rfl (by decide) 0 rfl rfl rfl) rfl rfl hl.1 rfl (lv_room (Nat.le_of_ble_eq_true rfl)) dX6_product_52 ⟨Nat.zero_le _, Nat.zero_le _⟩) hP hD hS hA [0, 1, 2] [] rfl rfl (by decide) (by decide) (fun r_37 w_36 H locs h_35 hP hD hS => ?_)
                obtain ⟨c9_38, o9_39, ST9_40, hq9_41, hx9_42, rfl, rfl⟩ := h_35
                have hP : va_P D vwCl [(h, .inr (6, [.ref m0, .ref m1, .ref m2, .int i3, .ref m4, .int (nI q2), .int (nI o9_39), .int (nI c9_38), .int (nI u), .ref m9, .ref m10, .ref m11, .int (nI tn), .ref m13, .int (nI sp), .int (nI pt), .ref m16, .ref m17, .ref m18, .ref m19])), (m0, .inl (cI, 380, .inl S)), (m9, .inl (cI, 124, .inl ST9_40))] H := hP
                have hD : va_D AA [(h, .inr (6, [.ref m0, .ref m1, .ref m2, .int i3, .ref m4, .int (nI q2), .int (nI o9_39), .int (nI c9_38), .int (nI u), .ref m9, .ref m10, .ref m11, .int (nI tn), .ref m13, .int (nI sp), .int (nI pt), .ref m16, .ref m17, .ref m18, .ref m19])), (m0, .inl (cI, 380, .inl S)), (m9, .inl (cI, 124, .inl ST9_40))] := hD
                refine lv_if_ne (tgt := 60) hx hb dX6_product_55 (by decide) (fun c55_43 => ?_) (fun c55_43 => ?_)
                · have c55_43 := bI_n0.mp c55_43
                  obtain ⟨hgd2, hge2, hgf2⟩ := hgc2 c55_43
                  obtain ⟨he2, hE2, ho2⟩ := hx9_42 c55_43
                  subst he2; subst hE2; subst ho2
                  refine lv_aload_n hx hb dX6_product_60 rfl (lv_at hl 1 rfl) ?_
                  refine lv_iconst (v := nI 3) hx hb dX6_product_61 (by decide) ?_
                  refine lv_iload_n hx hb dX6_product_62 rfl (lv_at hl 0 rfl) ?_
                  refine zcv (wr := [(m0, .inl (cI, 380, .inl S))]) (va_runV (As := [.int (nI 3), .int (nI (T pv))]) (rest := []) ⟨hx, hb, hml, hown, hts⟩ (c_X6_step1 l D cI cJ h m0 m1 m2 m4 m9 m10 m11 m13 m16 m17 m18 m19 i3 tn sp pt u q2 2 ((c + ta.length + t2.length)) (zap2 u (zap2 u ST c ta) (c + ta.length) t2) 3 (nI (T pv)) (by omega) H.size) (cwV 2 hts gX6_product_X6_step1 rfl rfl rfl (by decide +kernel) ⟨Nat.le_of_ble_eq_true rfl, Nat.le_of_ble_eq_true rfl⟩) (zpV hK hN hZ hP hD hS hA [0, 2] rfl (by decide) 0 rfl rfl rfl) rfl rfl hl.1 rfl (lv_room (Nat.le_of_ble_eq_true rfl)) dX6_product_63 ⟨Nat.zero_le _, Nat.zero_le _⟩) hP hD hS hA [0, 2] [1] rfl rfl (by decide) (by decide) (fun w_45 H locs h_44 hP hD hS => ?_)
                  obtain rfl := h_44
                  have hP : va_P D vwCl [(m0, .inl (cI, 380, .inl S)), (h, .inr (6, [.ref m0, .ref m1, .ref m2, .int i3, .ref m4, .int (nI q2), .int (nI 2), .int (nI ((((c + ta.length + t2.length)) + 1))), .int (nI u), .ref m9, .ref m10, .ref m11, .int (nI tn), .ref m13, .int (nI sp), .int (nI pt), .ref m16, .ref m17, .ref m18, .ref m19])), (m9, .inl (cI, 124, .inl ((upd (upd (zap2 u (zap2 u ST c ta) (c + ta.length) t2) (2 * ((c + ta.length + t2.length))) (nI 3)) (2 * ((c + ta.length + t2.length)) + 1) (nI (T pv))))))] H := hP
                  have hD : va_D AA [(m0, .inl (cI, 380, .inl S)), (h, .inr (6, [.ref m0, .ref m1, .ref m2, .int i3, .ref m4, .int (nI q2), .int (nI 2), .int (nI ((((c + ta.length + t2.length)) + 1))), .int (nI u), .ref m9, .ref m10, .ref m11, .int (nI tn), .ref m13, .int (nI sp), .int (nI pt), .ref m16, .ref m17, .ref m18, .ref m19])), (m9, .inl (cI, 124, .inl ((upd (upd (zap2 u (zap2 u ST c ta) (c + ta.length) t2) (2 * ((c + ta.length + t2.length))) (nI 3)) (2 * ((c + ta.length + t2.length)) + 1) (nI (T pv))))))] := hD
                  refine lv_goto (tgt := 9) hx hb dX6_product_66 (by decide) ?_
                  rw [zap23, zlen1 (t := (3, T pv))] at hP hD
                  exact ih_9   f1 q2 ((ta ++ (t2 ++ [(3, T pv)]))) (by omega) (zLt (by decide) hz ⟨by omega, zlv_4.mpr (by omega)⟩ hR2 (by assumption)) (by omega) (by omega) (by rw [← zlen1]; omega) ls (lv_sub hl [1] rfl) H locs (hP.sub [1, 0, 2] rfl) (hD.sub [1, 0, 2] (by decide) rfl) hS
                · have c55_43 := bI_0.mp c55_43
                  refine lv_iconst (v := nI 0) hx hb dX6_product_58 (by decide) ?_
                  exact hret hP hD hS dX6_product_59 rfl (by obtain ⟨e1, e2⟩ := zLf hz ⟨by omega, zlv_4.mpr (by omega)⟩ hR2 (by assumption); subst e1; subst e2; exact ⟨_, _, _, hq9_41, fun h9 => (by cases h9), (bI_f (by decide)).symm, rfl⟩)
        · refine zcsE (va_runV (As := []) (rest := []) ⟨hx, hb, hml, hown, hts⟩ (c_X6_look l D cI cJ h m0 m1 m2 m4 m9 m10 m11 m13 m16 m17 m18 m19 i3 tn sp pt S ST L u T pv ((c + ta.length)) 2 (by first | rfl | assumption | omega) (by first | rfl | assumption | omega) (by first | rfl | assumption | omega) (by first | rfl | assumption | omega) (by first | rfl | assumption | omega) (by omega) H.size) (cwV 0 hts gX6_product_X6_look rfl rfl rfl (by decide +kernel) ⟨Nat.le_of_ble_eq_true rfl, Nat.le_of_ble_eq_true rfl⟩) (zpV hK hN hZ hP hD hS hA [0, 1] rfl (by decide) 0 rfl rfl rfl) rfl rfl hl.1 rfl (lv_room (Nat.le_of_ble_eq_true rfl)) dX6_product_10 ⟨Nat.zero_le _, Nat.zero_le _⟩) ?_
          refine zrw (if_neg hpL) ?_
          refine lv_bipush (v := nI 42) hx hb dX6_product_13 (by decide) ?_
          refine lv_icmp_eq (tgt := 36) hx hb dX6_product_15 (by decide) (fun c15_46 => ?_) (fun c15_46 => ?_)
          · exact absurd c15_46 (by decide)
          · refine lv_aload_n hx hb dX6_product_18 rfl (lv_at hl 0 rfl) ?_
            refine zcsE (va_runV (As := []) (rest := []) ⟨hx, hb, hml, hown, hts⟩ (c_X6_look l D cI cJ h m0 m1 m2 m4 m9 m10 m11 m13 m16 m17 m18 m19 i3 tn sp pt S ST L u T pv ((c + ta.length)) 2 (by first | rfl | assumption | omega) (by first | rfl | assumption | omega) (by first | rfl | assumption | omega) (by first | rfl | assumption | omega) (by first | rfl | assumption | omega) (by omega) H.size) (cwV 0 hts gX6_product_X6_look rfl rfl rfl (by decide +kernel) ⟨Nat.le_of_ble_eq_true rfl, Nat.le_of_ble_eq_true rfl⟩) (zpV hK hN hZ hP hD hS hA [0, 1] rfl (by decide) 0 rfl rfl rfl) rfl rfl hl.1 rfl (lv_room (Nat.le_of_ble_eq_true rfl)) dX6_product_19 ⟨Nat.zero_le _, Nat.zero_le _⟩) ?_
            refine zrw (if_neg hpL) ?_
            refine lv_bipush (v := nI 47) hx hb dX6_product_22 (by decide) ?_
            refine lv_icmp_eq (tgt := 36) hx hb dX6_product_24 (by decide) (fun c24_47 => ?_) (fun c24_47 => ?_)
            · exact absurd c24_47 (by decide)
            · refine lv_aload_n hx hb dX6_product_27 rfl (lv_at hl 0 rfl) ?_
              refine zcsE (va_runV (As := []) (rest := []) ⟨hx, hb, hml, hown, hts⟩ (c_X6_look l D cI cJ h m0 m1 m2 m4 m9 m10 m11 m13 m16 m17 m18 m19 i3 tn sp pt S ST L u T pv ((c + ta.length)) 2 (by first | rfl | assumption | omega) (by first | rfl | assumption | omega) (by first | rfl | assumption | omega) (by first | rfl | assumption | omega) (by first | rfl | assumption | omega) (by omega) H.size) (cwV 0 hts gX6_product_X6_look rfl rfl rfl (by decide +kernel) ⟨Nat.le_of_ble_eq_true rfl, Nat.le_of_ble_eq_true rfl⟩) (zpV hK hN hZ hP hD hS hA [0, 1] rfl (by decide) 0 rfl rfl rfl) rfl rfl hl.1 rfl (lv_room (Nat.le_of_ble_eq_true rfl)) dX6_product_28 ⟨Nat.zero_le _, Nat.zero_le _⟩) ?_
              refine zrw (if_neg hpL) ?_
              refine lv_bipush (v := nI 37) hx hb dX6_product_31 (by decide) ?_
              refine lv_icmp_ne (tgt := 69) hx hb dX6_product_33 (by decide) (fun c33_48 => ?_) (fun c33_48 => ?_)
              · refine lv_iconst (v := nI 1) hx hb dX6_product_69 (by decide) ?_
                exact hret hP hD hS dX6_product_70 rfl (by obtain ⟨e1, e2, e3⟩ := zLe (f := f1) hz (fun h9 => by have h91 := h9.1; have h92 := zlv_4.mp h9.2; omega); subst e1; subst e2; subst e3; exact ⟨_, _, _, (by omega), fun _ => ⟨rfl, rfl, rfl⟩, (bI_t rfl).symm, rfl⟩)
              · exact absurd c33_48 (by decide)
    exact L_9 62  61 q1 t1 (by omega) hz (by omega) (by omega) (by omega) ls (lv_sub hl [0] rfl) _ _ hP hD hS
  · have c4_9 := bI_0.mp c4_9
    refine lv_iconst (v := nI 0) hx hb dX6_product_7 (by decide) ?_
    exact hret hP hD hS dX6_product_8 rfl (by obtain ⟨e1, e2⟩ := zLv_ff hR hR1 (by assumption); subst e1; subst e2; exact ⟨_, _, _, hq9_7, fun h9 => (by cases h9), (bI_f (by decide)).symm, rfl⟩)
set_option maxHeartbeats 4000000 in
set_option maxRecDepth 100000 in
theorem c_X6_sum_2 (l : Launch) (D : va_G) (cI cJ : ClassId) (h : Nat) (m0 : Nat) (m1 : Nat) (m2 : Nat) (m4 : Nat) (m9 : Nat) (m10 : Nat) (m11 : Nat) (m13 : Nat) (m16 : Nat) (m17 : Nat) (m18 : Nat) (m19 : Nat) (i3 : Int32) (tn : Nat) (sp : Nat) (pt : Nat) (S : Nat → Int32) (ST : Nat → Int32) (L : Nat) (u : Nat) (T : Nat → Nat) (p : Nat) (c : Nat) (b : Bool) (q : Nat) (tl : zTks) (hL : L ≤ 60) (hu1 : u ≤ 1) (hT : ∀ i, i < L → T i < 256) (htb : ∀ i, i < L → S (296 + i) = nI (T i)) (hS4 : S 4 = nI L) (hp : p ≤ L) (hcp : c ≤ p) (hR : zLS T L (zQ T L u 3) 2 p = (b, q, tl)) : zMi l yX6_sum wsX6_sum ({ frames := 21, cells := 0, slots := 0, locals := 444 } : Room) D [(cI, .int), (cJ, .array .int)] [.ref h] [(h, .inr (6, [.ref m0, .ref m1, .ref m2, .int i3, .ref m4, .int (nI p), .int (nI 2), .int (nI c), .int (nI u), .ref m9, .ref m10, .ref m11, .int (nI tn), .ref m13, .int (nI sp), .int (nI pt), .ref m16, .ref m17, .ref m18, .ref m19])), (m0, .inl (cI, 380, .inl S)), (m9, .inl (cI, 124, .inl ST))] (fun r w => ∃ (c9 o9 : Nat) (ST9 : Nat → Int32), c9 ≤ q ∧ (b = true → c9 = c + tl.length ∧ ST9 = zap2 u ST c tl ∧ o9 = 2) ∧ r = bI (b = true) ∧ w = [(h, .inr (6, [.ref m0, .ref m1, .ref m2, .int i3, .ref m4, .int (nI q), .int (nI o9), .int (nI c9), .int (nI u), .ref m9, .ref m10, .ref m11, .int (nI tn), .ref m13, .int (nI sp), .int (nI pt), .ref m16, .ref m17, .ref m18, .ref m19])), (m0, .inl (cI, 380, .inl S)), (m9, .inl (cI, 124, .inl ST9))]) := by
  refine zMi.start (cc := cX6_sum) (maxL := 2) (rt := .boolean) (by first | decide | decide +kernel) rfl (Nat.le_of_ble_eq_true rfl) ?_
  intro pg ev s mt args below meth cd ls AA QQ ⟨hx, hb, hml, hr, hlocks, hown, hts, hK, hN, hZ, hP, hD, hA, hS, hl⟩ hret
  have hown : s.vm.findClass RX6 = some mt.cls := hown
  have hl : lv_has ls 2 [(0, .ref h)] := hl
  have hin6 : ∀ w ∈ wsX60, w ∈ wsX6_sum := fun w h => List.mem_cons_of_mem _ (List.mem_append_right _ (h))
  have hR : zLv T L 3 (zLS T L (zQ T L u 3) 1) p = (b, q, tl) := hR
  obtain ⟨b1, q1, t1, hR1⟩ : ∃ (b0 : Bool) (q0 : Nat) (t0 : zTks), zLS T L (zQ T L u 3) 1 p = (b0, q0, t0) := ⟨_, _, _, rfl⟩
  have hg1 := (zLS_gd (T := T) (zQ_gd (T := T) (L := L) (u := u) 3) 1) p (by omega)
  rw [hR1] at hg1
  obtain ⟨hga1, hgb1, hgc1⟩ : p ≤ q1 ∧ q1 ≤ L ∧ (b1 = true → p < q1 ∧ t1.length ≤ q1 - p ∧ zw1 t1) := hg1
  refine lv_aload_n hx hb dX6_sum_0 rfl (lv_at hl 0 rfl) ?_
  refine zci (wr := []) (va_runV (As := []) (rest := []) ⟨hx, hb, hml, hown, hts⟩ (c_X6_product_2 l D cI cJ h m0 m1 m2 m4 m9 m10 m11 m13 m16 m17 m18 m19 i3 tn sp pt S ST L u T p c b1 q1 t1 (by first | rfl | assumption | omega) (by first | rfl | assumption | omega) (by first | rfl | assumption | omega) (by first | rfl | assumption | omega) (by first | rfl | assumption | omega) (by first | rfl | assumption | omega) (by first | rfl | assumption | omega) hR1 s.heap.size) (cwV 0 hts gX6_sum_X6_product rfl rfl rfl (by decide +kernel) ⟨Nat.le_of_ble_eq_true rfl, Nat.le_of_ble_eq_true rfl⟩) (zpV hK hN hZ hP hD hS hA [0, 1, 2] rfl (by decide) 0 rfl rfl rfl) rfl rfl hl.1 rfl (lv_room (Nat.le_of_ble_eq_true rfl)) dX6_sum_1 ⟨Nat.zero_le _, Nat.zero_le _⟩) hP hD hS hA [0, 1, 2] [] rfl rfl (by decide) (by decide) (fun r_3 w_2 H locs h_1 hP hD hS => ?_)
  obtain ⟨c9_4, o9_5, ST9_6, hq9_7, hx9_8, rfl, rfl⟩ := h_1
  have hP : va_P D vwCl [(h, .inr (6, [.ref m0, .ref m1, .ref m2, .int i3, .ref m4, .int (nI q1), .int (nI o9_5), .int (nI c9_4), .int (nI u), .ref m9, .ref m10, .ref m11, .int (nI tn), .ref m13, .int (nI sp), .int (nI pt), .ref m16, .ref m17, .ref m18, .ref m19])), (m0, .inl (cI, 380, .inl S)), (m9, .inl (cI, 124, .inl ST9_6))] H := hP
  have hD : va_D AA [(h, .inr (6, [.ref m0, .ref m1, .ref m2, .int i3, .ref m4, .int (nI q1), .int (nI o9_5), .int (nI c9_4), .int (nI u), .ref m9, .ref m10, .ref m11, .int (nI tn), .ref m13, .int (nI sp), .int (nI pt), .ref m16, .ref m17, .ref m18, .ref m19])), (m0, .inl (cI, 380, .inl S)), (m9, .inl (cI, 124, .inl ST9_6))] := hD
  refine lv_if_ne (tgt := 9) hx hb dX6_sum_4 (by decide) (fun c4_9 => ?_) (fun c4_9 => ?_)
  · have c4_9 := bI_n0.mp c4_9
    obtain ⟨hgd1, hge1, hgf1⟩ := hgc1 c4_9
    obtain ⟨he1, hE1, ho1⟩ := hx9_8 c4_9
    subst he1; subst hE1; subst ho1
    have hz := zLv_tt hR hR1 c4_9
    have L_9 : ∀ (fu : Nat) (f : Nat) (pv : Nat) (ta : zTks) (hn : f < fu) (hz : zct ta (zLp T L 3 (zLS T L (zQ T L u 3) 1) f pv) = (b, q, tl)) (hf : L - pv < f) (hpv : pv ≤ L) (hca : c + ta.length ≤ pv), ∀ (ls : Array Slot), lv_has ls 2 [(0, .ref h)] → ∀ (H : Heap) (locs : List Loc), va_P D vwCl [(h, .inr (6, [.ref m0, .ref m1, .ref m2, .int i3, .ref m4, .int (nI pv), .int (nI 2), .int (nI ((c + ta.length))), .int (nI u), .ref m9, .ref m10, .ref m11, .int (nI tn), .ref m13, .int (nI sp), .int (nI pt), .ref m16, .ref m17, .ref m18, .ref m19])), (m0, .inl (cI, 380, .inl S)), (m9, .inl (cI, 124, .inl (zap2 u ST c ta)))] H → va_D AA [(h, .inr (6, [.ref m0, .ref m1, .ref m2, .int i3, .ref m4, .int (nI pv), .int (nI 2), .int (nI ((c + ta.length))), .int (nI u), .ref m9, .ref m10, .ref m11, .int (nI tn), .ref m13, .int (nI sp), .int (nI pt), .ref m16, .ref m17, .ref m18, .ref m19])), (m0, .inl (cI, 380, .inl S)), (m9, .inl (cI, 124, .inl (zap2 u ST c ta)))] → va_S AA s.heap H locs → W pg l ev ({ frames := 21, cells := 0, slots := 0, locals := 444 } : Room) s mt args below meth cd H locs 0 0 QQ (F0 mt 9 ls []) := by
      intro fu
      induction fu with
      | zero =>
        intro  f pv ta  hn
        exact absurd hn (by omega)
      | succ fu ih_9 =>
        intro  f pv ta  hn hz hf hpv hca ls hl H locs hP hD hS
        obtain ⟨f1, rfl⟩ : ∃ f1, f = f1 + 1 := ⟨f - 1, by omega⟩
        refine lv_aload_n hx hb dX6_sum_9 rfl (lv_at hl 0 rfl) ?_
        by_cases hpL : pv < L
        · refine zcsE (va_runV (As := []) (rest := []) ⟨hx, hb, hml, hown, hts⟩ (c_X6_look l D cI cJ h m0 m1 m2 m4 m9 m10 m11 m13 m16 m17 m18 m19 i3 tn sp pt S ST L u T pv ((c + ta.length)) 2 (by first | rfl | assumption | omega) (by first | rfl | assumption | omega) (by first | rfl | assumption | omega) (by first | rfl | assumption | omega) (by first | rfl | assumption | omega) (by omega) H.size) (cwV 0 hts gX6_sum_X6_look rfl rfl rfl (by decide +kernel) ⟨Nat.le_of_ble_eq_true rfl, Nat.le_of_ble_eq_true rfl⟩) (zpV hK hN hZ hP hD hS hA [0, 1] rfl (by decide) 0 rfl rfl rfl) rfl rfl hl.1 rfl (lv_room (Nat.le_of_ble_eq_true rfl)) dX6_sum_10 ⟨Nat.zero_le _, Nat.zero_le _⟩) ?_
          refine zrw (if_pos hpL) ?_
          refine lv_bipush (v := nI 43) hx hb dX6_sum_13 (by decide) ?_
          refine lv_icmp_eq (tgt := 27) hx hb dX6_sum_15 (by decide) (fun c15_10 => ?_) (fun c15_10 => ?_)
          · have c15_10 : (T pv) = 43 := (nI_eq (a := T pv) (b := 43) (by have h91 := hT pv (by omega); omega) (by have h91 := hT pv (by omega); omega)).mp c15_10
            refine lv_aload_n hx hb dX6_sum_27 rfl (lv_at hl 0 rfl) ?_
            refine zcsE (va_runV (As := []) (rest := []) ⟨hx, hb, hml, hown, hts⟩ (c_X6_look l D cI cJ h m0 m1 m2 m4 m9 m10 m11 m13 m16 m17 m18 m19 i3 tn sp pt S ST L u T pv ((c + ta.length)) 2 (by first | rfl | assumption | omega) (by first | rfl | assumption | omega) (by first | rfl | assumption | omega) (by first | rfl | assumption | omega) (by first | rfl | assumption | omega) (by omega) H.size) (cwV 0 hts gX6_sum_X6_look rfl rfl rfl (by decide +kernel) ⟨Nat.le_of_ble_eq_true rfl, Nat.le_of_ble_eq_true rfl⟩) (zpV hK hN hZ hP hD hS hA [0, 1] rfl (by decide) 0 rfl rfl rfl) rfl rfl hl.1 rfl (lv_room (Nat.le_of_ble_eq_true rfl)) dX6_sum_28 ⟨Nat.zero_le _, Nat.zero_le _⟩) ?_
            refine zrw (if_pos hpL) ?_
            refine lv_istore_n (lv' := [(1, .int (nI (T pv))), (0, .ref h)]) hx hb dX6_sum_31 rfl hl (by decide) rfl (fun ls hl => ?_)
            refine lv_aload_n hx hb dX6_sum_32 rfl (lv_at hl 1 rfl) ?_
            refine lv_dup hx hb dX6_sum_33 rfl ?_
            refine va_get (ci := 6) (v := .int (nI pv)) (C := RX6) (T := TX6) (N := 20) hx hb hts hin6 hown hK hP 0 rfl rfl 5 (by decide) (hts (.fieldLink RX6 61 "UpAllRoundModel" "at" "I") (List.mem_of_getElem? (i := 1) rfl)) (fun _ h9 => h9) rfl dX6_sum_34 ?_
            refine lv_iconst (v := nI 1) hx hb dX6_sum_37 (by decide) ?_
            refine lv_iadd hx hb dX6_sum_38 ?_
            refine zrw (nI_add _ _) ?_
            refine va_put (ci := 6) (v := .int (nI (pv + 1))) (ty := .int) (C := RX6) (T := TX6) (N := 20) hx hb hts hin6 tyX6 tyX6_ok nmX6 hown hK hP hD hS 0 rfl rfl 5 (by decide) (hts (.fieldLink RX6 61 "UpAllRoundModel" "at" "I") (List.mem_of_getElem? (i := 1) rfl)) (fun _ h9 => h9) rfl (by decide +kernel) rfl rfl (Nat.le_of_ble_eq_true rfl) dX6_sum_39 (fun H locs hP hD hS => ?_)
            have hP : va_P D vwCl [(h, .inr (6, [.ref m0, .ref m1, .ref m2, .int i3, .ref m4, .int (nI (pv + 1)), .int (nI 2), .int (nI ((c + ta.length))), .int (nI u), .ref m9, .ref m10, .ref m11, .int (nI tn), .ref m13, .int (nI sp), .int (nI pt), .ref m16, .ref m17, .ref m18, .ref m19])), (m0, .inl (cI, 380, .inl S)), (m9, .inl (cI, 124, .inl (zap2 u ST c ta)))] H := hP
            have hD : va_D AA [(h, .inr (6, [.ref m0, .ref m1, .ref m2, .int i3, .ref m4, .int (nI (pv + 1)), .int (nI 2), .int (nI ((c + ta.length))), .int (nI u), .ref m9, .ref m10, .ref m11, .int (nI tn), .ref m13, .int (nI sp), .int (nI pt), .ref m16, .ref m17, .ref m18, .ref m19])), (m0, .inl (cI, 380, .inl S)), (m9, .inl (cI, 124, .inl (zap2 u ST c ta)))] := hD
            refine lv_aload_n hx hb dX6_sum_42 rfl (lv_at hl 1 rfl) ?_
            obtain ⟨b2, q2, t2, hR2⟩ : ∃ (b0 : Bool) (q0 : Nat) (t0 : zTks), zLS T L (zQ T L u 3) 1 (pv + 1) = (b0, q0, t0) := ⟨_, _, _, rfl⟩
            have hg2 := (zLS_gd (T := T) (zQ_gd (T := T) (L := L) (u := u) 3) 1) (pv + 1) (by omega)
            rw [hR2] at hg2
            obtain ⟨hga2, hgb2, hgc2⟩ : (pv + 1) ≤ q2 ∧ q2 ≤ L ∧ (b2 = true → (pv + 1) < q2 ∧ t2.length ≤ q2 - (pv + 1) ∧ zw1 t2) := hg2
            refine zci (wr := []) (va_runV (As := []) (rest := []) ⟨hx, hb, hml, hown, hts⟩ (c_X6_product_2 l D cI cJ h m0 m1 m2 m4 m9 m10 m11 m13 m16 m17 m18 m19 i3 tn sp pt S (zap2 u ST c ta) L u T (pv + 1) ((c + ta.length)) b2 q2 t2 (by first | rfl | assumption | omega) (by first | rfl | assumption | omega) (by first | rfl | assumption | omega) (by first | rfl | assumption | omega) (by first | rfl | assumption | omega) (by omega) (by omega) hR2 H.size) (cwV 0 hts gX6_sum_X6_product rfl rfl rfl (by decide +kernel) ⟨Nat.le_of_ble_eq_true rfl, Nat.le_of_ble_eq_true rfl⟩) (zpV hK hN hZ hP hD hS hA [0, 1, 2] rfl (by decide) 0 rfl rfl rfl) rfl rfl hl.1 rfl (lv_room (Nat.le_of_ble_eq_true rfl)) dX6_sum_43 ⟨Nat.zero_le _, Nat.zero_le _⟩) hP hD hS hA [0, 1, 2] [] rfl rfl (by decide) (by decide) (fun r_13 w_12 H locs h_11 hP hD hS => ?_)
            obtain ⟨c9_14, o9_15, ST9_16, hq9_17, hx9_18, rfl, rfl⟩ := h_11
            have hP : va_P D vwCl [(h, .inr (6, [.ref m0, .ref m1, .ref m2, .int i3, .ref m4, .int (nI q2), .int (nI o9_15), .int (nI c9_14), .int (nI u), .ref m9, .ref m10, .ref m11, .int (nI tn), .ref m13, .int (nI sp), .int (nI pt), .ref m16, .ref m17, .ref m18, .ref m19])), (m0, .inl (cI, 380, .inl S)), (m9, .inl (cI, 124, .inl ST9_16))] H := hP
            have hD : va_D AA [(h, .inr (6, [.ref m0, .ref m1, .ref m2, .int i3, .ref m4, .int (nI q2), .int (nI o9_15), .int (nI c9_14), .int (nI u), .ref m9, .ref m10, .ref m11, .int (nI tn), .ref m13, .int (nI sp), .int (nI pt), .ref m16, .ref m17, .ref m18, .ref m19])), (m0, .inl (cI, 380, .inl S)), (m9, .inl (cI, 124, .inl ST9_16))] := hD
            refine lv_if_ne (tgt := 51) hx hb dX6_sum_46 (by decide) (fun c46_19 => ?_) (fun c46_19 => ?_)
            · have c46_19 := bI_n0.mp c46_19
              obtain ⟨hgd2, hge2, hgf2⟩ := hgc2 c46_19
              obtain ⟨he2, hE2, ho2⟩ := hx9_18 c46_19
              subst he2; subst hE2; subst ho2
              refine lv_aload_n hx hb dX6_sum_51 rfl (lv_at hl 1 rfl) ?_
              refine lv_iconst (v := nI 3) hx hb dX6_sum_52 (by decide) ?_
              refine lv_iload_n hx hb dX6_sum_53 rfl (lv_at hl 0 rfl) ?_
              refine zcv (wr := [(m0, .inl (cI, 380, .inl S))]) (va_runV (As := [.int (nI 3), .int (nI (T pv))]) (rest := []) ⟨hx, hb, hml, hown, hts⟩ (c_X6_step1 l D cI cJ h m0 m1 m2 m4 m9 m10 m11 m13 m16 m17 m18 m19 i3 tn sp pt u q2 2 ((c + ta.length + t2.length)) (zap2 u (zap2 u ST c ta) (c + ta.length) t2) 3 (nI (T pv)) (by omega) H.size) (cwV 2 hts gX6_sum_X6_step1 rfl rfl rfl (by decide +kernel) ⟨Nat.le_of_ble_eq_true rfl, Nat.le_of_ble_eq_true rfl⟩) (zpV hK hN hZ hP hD hS hA [0, 2] rfl (by decide) 0 rfl rfl rfl) rfl rfl hl.1 rfl (lv_room (Nat.le_of_ble_eq_true rfl)) dX6_sum_54 ⟨Nat.zero_le _, Nat.zero_le _⟩) hP hD hS hA [0, 2] [1] rfl rfl (by decide) (by decide) (fun w_21 H locs h_20 hP hD hS => ?_)
              obtain rfl := h_20
              have hP : va_P D vwCl [(m0, .inl (cI, 380, .inl S)), (h, .inr (6, [.ref m0, .ref m1, .ref m2, .int i3, .ref m4, .int (nI q2), .int (nI 2), .int (nI ((((c + ta.length + t2.length)) + 1))), .int (nI u), .ref m9, .ref m10, .ref m11, .int (nI tn), .ref m13, .int (nI sp), .int (nI pt), .ref m16, .ref m17, .ref m18, .ref m19])), (m9, .inl (cI, 124, .inl ((upd (upd (zap2 u (zap2 u ST c ta) (c + ta.length) t2) (2 * ((c + ta.length + t2.length))) (nI 3)) (2 * ((c + ta.length + t2.length)) + 1) (nI (T pv))))))] H := hP
              have hD : va_D AA [(m0, .inl (cI, 380, .inl S)), (h, .inr (6, [.ref m0, .ref m1, .ref m2, .int i3, .ref m4, .int (nI q2), .int (nI 2), .int (nI ((((c + ta.length + t2.length)) + 1))), .int (nI u), .ref m9, .ref m10, .ref m11, .int (nI tn), .ref m13, .int (nI sp), .int (nI pt), .ref m16, .ref m17, .ref m18, .ref m19])), (m9, .inl (cI, 124, .inl ((upd (upd (zap2 u (zap2 u ST c ta) (c + ta.length) t2) (2 * ((c + ta.length + t2.length))) (nI 3)) (2 * ((c + ta.length + t2.length)) + 1) (nI (T pv))))))] := hD
              refine lv_goto (tgt := 9) hx hb dX6_sum_57 (by decide) ?_
              rw [zap23, zlen1 (t := (3, T pv))] at hP hD
              exact ih_9   f1 q2 ((ta ++ (t2 ++ [(3, T pv)]))) (by omega) (zLt (by decide) hz ⟨by omega, zlv_3.mpr (by omega)⟩ hR2 (by assumption)) (by omega) (by omega) (by rw [← zlen1]; omega) ls (lv_sub hl [1] rfl) H locs (hP.sub [1, 0, 2] rfl) (hD.sub [1, 0, 2] (by decide) rfl) hS
            · have c46_19 := bI_0.mp c46_19
              refine lv_iconst (v := nI 0) hx hb dX6_sum_49 (by decide) ?_
              exact hret hP hD hS dX6_sum_50 rfl (by obtain ⟨e1, e2⟩ := zLf hz ⟨by omega, zlv_3.mpr (by omega)⟩ hR2 (by assumption); subst e1; subst e2; exact ⟨_, _, _, hq9_17, fun h9 => (by cases h9), (bI_f (by decide)).symm, rfl⟩)
          · have c15_10 : ¬ ((T pv) = 43) := fun h9 => c15_10 ((nI_eq (a := T pv) (b := 43) (by have h91 := hT pv (by omega); omega) (by have h91 := hT pv (by omega); omega)).mpr h9)
            refine lv_aload_n hx hb dX6_sum_18 rfl (lv_at hl 0 rfl) ?_
            refine zcsE (va_runV (As := []) (rest := []) ⟨hx, hb, hml, hown, hts⟩ (c_X6_look l D cI cJ h m0 m1 m2 m4 m9 m10 m11 m13 m16 m17 m18 m19 i3 tn sp pt S ST L u T pv ((c + ta.length)) 2 (by first | rfl | assumption | omega) (by first | rfl | assumption | omega) (by first | rfl | assumption | omega) (by first | rfl | assumption | omega) (by first | rfl | assumption | omega) (by omega) H.size) (cwV 0 hts gX6_sum_X6_look rfl rfl rfl (by decide +kernel) ⟨Nat.le_of_ble_eq_true rfl, Nat.le_of_ble_eq_true rfl⟩) (zpV hK hN hZ hP hD hS hA [0, 1] rfl (by decide) 0 rfl rfl rfl) rfl rfl hl.1 rfl (lv_room (Nat.le_of_ble_eq_true rfl)) dX6_sum_19 ⟨Nat.zero_le _, Nat.zero_le _⟩) ?_
            refine zrw (if_pos hpL) ?_
            refine lv_bipush (v := nI 45) hx hb dX6_sum_22 (by decide) ?_
            refine lv_icmp_ne (tgt := 60) hx hb dX6_sum_24 (by decide) (fun c24_22 => ?_) (fun c24_22 => ?_)
            · have c24_22 : ¬ ((T pv) = 45) := fun h9 => c24_22 ((nI_eq (a := T pv) (b := 45) (by have h91 := hT pv (by omega); omega) (by have h91 := hT pv (by omega); omega)).mpr h9)
              refine lv_iconst (v := nI 1) hx hb dX6_sum_60 (by decide) ?_
              exact hret hP hD hS dX6_sum_61 rfl (by obtain ⟨e1, e2, e3⟩ := zLe (f := f1) hz (fun h9 => by have h91 := h9.1; have h92 := zlv_3.mp h9.2; omega); subst e1; subst e2; subst e3; exact ⟨_, _, _, (by omega), fun _ => ⟨rfl, rfl, rfl⟩, (bI_t rfl).symm, rfl⟩)
            · have c24_22 : (T pv) = 45 := (nI_eq (a := T pv) (b := 45) (by have h91 := hT pv (by omega); omega) (by have h91 := hT pv (by omega); omega)).mp c24_22
              refine lv_aload_n hx hb dX6_sum_27 rfl (lv_at hl 0 rfl) ?_
              refine zcsE (va_runV (As := []) (rest := []) ⟨hx, hb, hml, hown, hts⟩ (c_X6_look l D cI cJ h m0 m1 m2 m4 m9 m10 m11 m13 m16 m17 m18 m19 i3 tn sp pt S ST L u T pv ((c + ta.length)) 2 (by first | rfl | assumption | omega) (by first | rfl | assumption | omega) (by first | rfl | assumption | omega) (by first | rfl | assumption | omega) (by first | rfl | assumption | omega) (by omega) H.size) (cwV 0 hts gX6_sum_X6_look rfl rfl rfl (by decide +kernel) ⟨Nat.le_of_ble_eq_true rfl, Nat.le_of_ble_eq_true rfl⟩) (zpV hK hN hZ hP hD hS hA [0, 1] rfl (by decide) 0 rfl rfl rfl) rfl rfl hl.1 rfl (lv_room (Nat.le_of_ble_eq_true rfl)) dX6_sum_28 ⟨Nat.zero_le _, Nat.zero_le _⟩) ?_
              refine zrw (if_pos hpL) ?_
              refine lv_istore_n (lv' := [(1, .int (nI (T pv))), (0, .ref h)]) hx hb dX6_sum_31 rfl hl (by decide) rfl (fun ls hl => ?_)
              refine lv_aload_n hx hb dX6_sum_32 rfl (lv_at hl 1 rfl) ?_
              refine lv_dup hx hb dX6_sum_33 rfl ?_
              refine va_get (ci := 6) (v := .int (nI pv)) (C := RX6) (T := TX6) (N := 20) hx hb hts hin6 hown hK hP 0 rfl rfl 5 (by decide) (hts (.fieldLink RX6 61 "UpAllRoundModel" "at" "I") (List.mem_of_getElem? (i := 1) rfl)) (fun _ h9 => h9) rfl dX6_sum_34 ?_
              refine lv_iconst (v := nI 1) hx hb dX6_sum_37 (by decide) ?_
              refine lv_iadd hx hb dX6_sum_38 ?_
              refine zrw (nI_add _ _) ?_
              refine va_put (ci := 6) (v := .int (nI (pv + 1))) (ty := .int) (C := RX6) (T := TX6) (N := 20) hx hb hts hin6 tyX6 tyX6_ok nmX6 hown hK hP hD hS 0 rfl rfl 5 (by decide) (hts (.fieldLink RX6 61 "UpAllRoundModel" "at" "I") (List.mem_of_getElem? (i := 1) rfl)) (fun _ h9 => h9) rfl (by decide +kernel) rfl rfl (Nat.le_of_ble_eq_true rfl) dX6_sum_39 (fun H locs hP hD hS => ?_)
              have hP : va_P D vwCl [(h, .inr (6, [.ref m0, .ref m1, .ref m2, .int i3, .ref m4, .int (nI (pv + 1)), .int (nI 2), .int (nI ((c + ta.length))), .int (nI u), .ref m9, .ref m10, .ref m11, .int (nI tn), .ref m13, .int (nI sp), .int (nI pt), .ref m16, .ref m17, .ref m18, .ref m19])), (m0, .inl (cI, 380, .inl S)), (m9, .inl (cI, 124, .inl (zap2 u ST c ta)))] H := hP
              have hD : va_D AA [(h, .inr (6, [.ref m0, .ref m1, .ref m2, .int i3, .ref m4, .int (nI (pv + 1)), .int (nI 2), .int (nI ((c + ta.length))), .int (nI u), .ref m9, .ref m10, .ref m11, .int (nI tn), .ref m13, .int (nI sp), .int (nI pt), .ref m16, .ref m17, .ref m18, .ref m19])), (m0, .inl (cI, 380, .inl S)), (m9, .inl (cI, 124, .inl (zap2 u ST c ta)))] := hD
              refine lv_aload_n hx hb dX6_sum_42 rfl (lv_at hl 1 rfl) ?_
              obtain ⟨b2, q2, t2, hR2⟩ : ∃ (b0 : Bool) (q0 : Nat) (t0 : zTks), zLS T L (zQ T L u 3) 1 (pv + 1) = (b0, q0, t0) := ⟨_, _, _, rfl⟩
              have hg2 := (zLS_gd (T := T) (zQ_gd (T := T) (L := L) (u := u) 3) 1) (pv + 1) (by omega)
              rw [hR2] at hg2
              obtain ⟨hga2, hgb2, hgc2⟩ : (pv + 1) ≤ q2 ∧ q2 ≤ L ∧ (b2 = true → (pv + 1) < q2 ∧ t2.length ≤ q2 - (pv + 1) ∧ zw1 t2) := hg2
              refine zci (wr := []) (va_runV (As := []) (rest := []) ⟨hx, hb, hml, hown, hts⟩ (c_X6_product_2 l D cI cJ h m0 m1 m2 m4 m9 m10 m11 m13 m16 m17 m18 m19 i3 tn sp pt S (zap2 u ST c ta) L u T (pv + 1) ((c + ta.length)) b2 q2 t2 (by first | rfl | assumption | omega) (by first | rfl | assumption | omega) (by first | rfl | assumption | omega) (by first | rfl | assumption | omega) (by first | rfl | assumption | omega) (by omega) (by omega) hR2 H.size) (cwV 0 hts gX6_sum_X6_product rfl rfl rfl (by decide +kernel) ⟨Nat.le_of_ble_eq_true rfl, Nat.le_of_ble_eq_true rfl⟩) (zpV hK hN hZ hP hD hS hA [0, 1, 2] rfl (by decide) 0 rfl rfl rfl) rfl rfl hl.1 rfl (lv_room (Nat.le_of_ble_eq_true rfl)) dX6_sum_43 ⟨Nat.zero_le _, Nat.zero_le _⟩) hP hD hS hA [0, 1, 2] [] rfl rfl (by decide) (by decide) (fun r_25 w_24 H locs h_23 hP hD hS => ?_)
              obtain ⟨c9_26, o9_27, ST9_28, hq9_29, hx9_30, rfl, rfl⟩ := h_23
              have hP : va_P D vwCl [(h, .inr (6, [.ref m0, .ref m1, .ref m2, .int i3, .ref m4, .int (nI q2), .int (nI o9_27), .int (nI c9_26), .int (nI u), .ref m9, .ref m10, .ref m11, .int (nI tn), .ref m13, .int (nI sp), .int (nI pt), .ref m16, .ref m17, .ref m18, .ref m19])), (m0, .inl (cI, 380, .inl S)), (m9, .inl (cI, 124, .inl ST9_28))] H := hP
              have hD : va_D AA [(h, .inr (6, [.ref m0, .ref m1, .ref m2, .int i3, .ref m4, .int (nI q2), .int (nI o9_27), .int (nI c9_26), .int (nI u), .ref m9, .ref m10, .ref m11, .int (nI tn), .ref m13, .int (nI sp), .int (nI pt), .ref m16, .ref m17, .ref m18, .ref m19])), (m0, .inl (cI, 380, .inl S)), (m9, .inl (cI, 124, .inl ST9_28))] := hD
              refine lv_if_ne (tgt := 51) hx hb dX6_sum_46 (by decide) (fun c46_31 => ?_) (fun c46_31 => ?_)
              · have c46_31 := bI_n0.mp c46_31
                obtain ⟨hgd2, hge2, hgf2⟩ := hgc2 c46_31
                obtain ⟨he2, hE2, ho2⟩ := hx9_30 c46_31
                subst he2; subst hE2; subst ho2
                refine lv_aload_n hx hb dX6_sum_51 rfl (lv_at hl 1 rfl) ?_
                refine lv_iconst (v := nI 3) hx hb dX6_sum_52 (by decide) ?_
                refine lv_iload_n hx hb dX6_sum_53 rfl (lv_at hl 0 rfl) ?_
                refine zcv (wr := [(m0, .inl (cI, 380, .inl S))]) (va_runV (As := [.int (nI 3), .int (nI (T pv))]) (rest := []) ⟨hx, hb, hml, hown, hts⟩ (c_X6_step1 l D cI cJ h m0 m1 m2 m4 m9 m10 m11 m13 m16 m17 m18 m19 i3 tn sp pt u q2 2 ((c + ta.length + t2.length)) (zap2 u (zap2 u ST c ta) (c + ta.length) t2) 3 (nI (T pv)) (by omega) H.size) (cwV 2 hts gX6_sum_X6_step1 rfl rfl rfl (by decide +kernel) ⟨Nat.le_of_ble_eq_true rfl, Nat.le_of_ble_eq_true rfl⟩) (zpV hK hN hZ hP hD hS hA [0, 2] rfl (by decide) 0 rfl rfl rfl) rfl rfl hl.1 rfl (lv_room (Nat.le_of_ble_eq_true rfl)) dX6_sum_54 ⟨Nat.zero_le _, Nat.zero_le _⟩) hP hD hS hA [0, 2] [1] rfl rfl (by decide) (by decide) (fun w_33 H locs h_32 hP hD hS => ?_)
                obtain rfl := h_32
                have hP : va_P D vwCl [(m0, .inl (cI, 380, .inl S)), (h, .inr (6, [.ref m0, .ref m1, .ref m2, .int i3, .ref m4, .int (nI q2), .int (nI 2), .int (nI ((((c + ta.length + t2.length)) + 1))), .int (nI u), .ref m9, .ref m10, .ref m11, .int (nI tn), .ref m13, .int (nI sp), .int (nI pt), .ref m16, .ref m17, .ref m18, .ref m19])), (m9, .inl (cI, 124, .inl ((upd (upd (zap2 u (zap2 u ST c ta) (c + ta.length) t2) (2 * ((c + ta.length + t2.length))) (nI 3)) (2 * ((c + ta.length + t2.length)) + 1) (nI (T pv))))))] H := hP
                have hD : va_D AA [(m0, .inl (cI, 380, .inl S)), (h, .inr (6, [.ref m0, .ref m1, .ref m2, .int i3, .ref m4, .int (nI q2), .int (nI 2), .int (nI ((((c + ta.length + t2.length)) + 1))), .int (nI u), .ref m9, .ref m10, .ref m11, .int (nI tn), .ref m13, .int (nI sp), .int (nI pt), .ref m16, .ref m17, .ref m18, .ref m19])), (m9, .inl (cI, 124, .inl ((upd (upd (zap2 u (zap2 u ST c ta) (c + ta.length) t2) (2 * ((c + ta.length + t2.length))) (nI 3)) (2 * ((c + ta.length + t2.length)) + 1) (nI (T pv))))))] := hD
                refine lv_goto (tgt := 9) hx hb dX6_sum_57 (by decide) ?_
                rw [zap23, zlen1 (t := (3, T pv))] at hP hD
                exact ih_9   f1 q2 ((ta ++ (t2 ++ [(3, T pv)]))) (by omega) (zLt (by decide) hz ⟨by omega, zlv_3.mpr (by omega)⟩ hR2 (by assumption)) (by omega) (by omega) (by rw [← zlen1]; omega) ls (lv_sub hl [1] rfl) H locs (hP.sub [1, 0, 2] rfl) (hD.sub [1, 0, 2] (by decide) rfl) hS
              · have c46_31 := bI_0.mp c46_31
                refine lv_iconst (v := nI 0) hx hb dX6_sum_49 (by decide) ?_
                exact hret hP hD hS dX6_sum_50 rfl (by obtain ⟨e1, e2⟩ := zLf hz ⟨by omega, zlv_3.mpr (by omega)⟩ hR2 (by assumption); subst e1; subst e2; exact ⟨_, _, _, hq9_29, fun h9 => (by cases h9), (bI_f (by decide)).symm, rfl⟩)
        · refine zcsE (va_runV (As := []) (rest := []) ⟨hx, hb, hml, hown, hts⟩ (c_X6_look l D cI cJ h m0 m1 m2 m4 m9 m10 m11 m13 m16 m17 m18 m19 i3 tn sp pt S ST L u T pv ((c + ta.length)) 2 (by first | rfl | assumption | omega) (by first | rfl | assumption | omega) (by first | rfl | assumption | omega) (by first | rfl | assumption | omega) (by first | rfl | assumption | omega) (by omega) H.size) (cwV 0 hts gX6_sum_X6_look rfl rfl rfl (by decide +kernel) ⟨Nat.le_of_ble_eq_true rfl, Nat.le_of_ble_eq_true rfl⟩) (zpV hK hN hZ hP hD hS hA [0, 1] rfl (by decide) 0 rfl rfl rfl) rfl rfl hl.1 rfl (lv_room (Nat.le_of_ble_eq_true rfl)) dX6_sum_10 ⟨Nat.zero_le _, Nat.zero_le _⟩) ?_
          refine zrw (if_neg hpL) ?_
          refine lv_bipush (v := nI 43) hx hb dX6_sum_13 (by decide) ?_
          refine lv_icmp_eq (tgt := 27) hx hb dX6_sum_15 (by decide) (fun c15_34 => ?_) (fun c15_34 => ?_)
          · exact absurd c15_34 (by decide)
          · refine lv_aload_n hx hb dX6_sum_18 rfl (lv_at hl 0 rfl) ?_
            refine zcsE (va_runV (As := []) (rest := []) ⟨hx, hb, hml, hown, hts⟩ (c_X6_look l D cI cJ h m0 m1 m2 m4 m9 m10 m11 m13 m16 m17 m18 m19 i3 tn sp pt S ST L u T pv ((c + ta.length)) 2 (by first | rfl | assumption | omega) (by first | rfl | assumption | omega) (by first | rfl | assumption | omega) (by first | rfl | assumption | omega) (by first | rfl | assumption | omega) (by omega) H.size) (cwV 0 hts gX6_sum_X6_look rfl rfl rfl (by decide +kernel) ⟨Nat.le_of_ble_eq_true rfl, Nat.le_of_ble_eq_true rfl⟩) (zpV hK hN hZ hP hD hS hA [0, 1] rfl (by decide) 0 rfl rfl rfl) rfl rfl hl.1 rfl (lv_room (Nat.le_of_ble_eq_true rfl)) dX6_sum_19 ⟨Nat.zero_le _, Nat.zero_le _⟩) ?_
            refine zrw (if_neg hpL) ?_
            refine lv_bipush (v := nI 45) hx hb dX6_sum_22 (by decide) ?_
            refine lv_icmp_ne (tgt := 60) hx hb dX6_sum_24 (by decide) (fun c24_35 => ?_) (fun c24_35 => ?_)
            · refine lv_iconst (v := nI 1) hx hb dX6_sum_60 (by decide) ?_
              exact hret hP hD hS dX6_sum_61 rfl (by obtain ⟨e1, e2, e3⟩ := zLe (f := f1) hz (fun h9 => by have h91 := h9.1; have h92 := zlv_3.mp h9.2; omega); subst e1; subst e2; subst e3; exact ⟨_, _, _, (by omega), fun _ => ⟨rfl, rfl, rfl⟩, (bI_t rfl).symm, rfl⟩)
            · exact absurd c24_35 (by decide)
    exact L_9 62  61 q1 t1 (by omega) hz (by omega) (by omega) (by omega) ls (lv_sub hl [0] rfl) _ _ hP hD hS
  · have c4_9 := bI_0.mp c4_9
    refine lv_iconst (v := nI 0) hx hb dX6_sum_7 (by decide) ?_
    exact hret hP hD hS dX6_sum_8 rfl (by obtain ⟨e1, e2⟩ := zLv_ff hR hR1 (by assumption); subst e1; subst e2; exact ⟨_, _, _, hq9_7, fun h9 => (by cases h9), (bI_f (by decide)).symm, rfl⟩)
set_option maxHeartbeats 4000000 in
set_option maxRecDepth 100000 in
theorem c_X6_compared_2 (l : Launch) (D : va_G) (cI cJ : ClassId) (h : Nat) (m0 : Nat) (m1 : Nat) (m2 : Nat) (m4 : Nat) (m9 : Nat) (m10 : Nat) (m11 : Nat) (m13 : Nat) (m16 : Nat) (m17 : Nat) (m18 : Nat) (m19 : Nat) (i3 : Int32) (tn : Nat) (sp : Nat) (pt : Nat) (S : Nat → Int32) (ST : Nat → Int32) (L : Nat) (u : Nat) (T : Nat → Nat) (p : Nat) (c : Nat) (b : Bool) (q : Nat) (tl : zTks) (hL : L ≤ 60) (hu1 : u ≤ 1) (hT : ∀ i, i < L → T i < 256) (htb : ∀ i, i < L → S (296 + i) = nI (T i)) (hS4 : S 4 = nI L) (hp : p ≤ L) (hcp : c ≤ p) (hR : zLS T L (zQ T L u 3) 3 p = (b, q, tl)) : zMi l yX6_compared wsX6_compared ({ frames := 22, cells := 0, slots := 0, locals := 465 } : Room) D [(cI, .int), (cJ, .array .int)] [.ref h] [(h, .inr (6, [.ref m0, .ref m1, .ref m2, .int i3, .ref m4, .int (nI p), .int (nI 2), .int (nI c), .int (nI u), .ref m9, .ref m10, .ref m11, .int (nI tn), .ref m13, .int (nI sp), .int (nI pt), .ref m16, .ref m17, .ref m18, .ref m19])), (m0, .inl (cI, 380, .inl S)), (m9, .inl (cI, 124, .inl ST))] (fun r w => ∃ (c9 o9 : Nat) (ST9 : Nat → Int32), c9 ≤ q ∧ (b = true → c9 = c + tl.length ∧ ST9 = zap2 u ST c tl ∧ o9 = 2) ∧ r = bI (b = true) ∧ w = [(h, .inr (6, [.ref m0, .ref m1, .ref m2, .int i3, .ref m4, .int (nI q), .int (nI o9), .int (nI c9), .int (nI u), .ref m9, .ref m10, .ref m11, .int (nI tn), .ref m13, .int (nI sp), .int (nI pt), .ref m16, .ref m17, .ref m18, .ref m19])), (m0, .inl (cI, 380, .inl S)), (m9, .inl (cI, 124, .inl ST9))]) := by
  refine zMi.start (cc := cX6_compared) (maxL := 2) (rt := .boolean) (by first | decide | decide +kernel) rfl (Nat.le_of_ble_eq_true rfl) ?_
  intro pg ev s mt args below meth cd ls AA QQ ⟨hx, hb, hml, hr, hlocks, hown, hts, hK, hN, hZ, hP, hD, hA, hS, hl⟩ hret
  have hown : s.vm.findClass RX6 = some mt.cls := hown
  have hl : lv_has ls 2 [(0, .ref h)] := hl
  have hin6 : ∀ w ∈ wsX60, w ∈ wsX6_compared := fun w h => List.mem_cons_of_mem _ (List.mem_append_right _ (h))
  have hR : zLv T L 2 (zLS T L (zQ T L u 3) 2) p = (b, q, tl) := hR
  obtain ⟨b1, q1, t1, hR1⟩ : ∃ (b0 : Bool) (q0 : Nat) (t0 : zTks), zLS T L (zQ T L u 3) 2 p = (b0, q0, t0) := ⟨_, _, _, rfl⟩
  have hg1 := (zLS_gd (T := T) (zQ_gd (T := T) (L := L) (u := u) 3) 2) p (by omega)
  rw [hR1] at hg1
  obtain ⟨hga1, hgb1, hgc1⟩ : p ≤ q1 ∧ q1 ≤ L ∧ (b1 = true → p < q1 ∧ t1.length ≤ q1 - p ∧ zw1 t1) := hg1
  refine lv_aload_n hx hb dX6_compared_0 rfl (lv_at hl 0 rfl) ?_
  refine zci (wr := []) (va_runV (As := []) (rest := []) ⟨hx, hb, hml, hown, hts⟩ (c_X6_sum_2 l D cI cJ h m0 m1 m2 m4 m9 m10 m11 m13 m16 m17 m18 m19 i3 tn sp pt S ST L u T p c b1 q1 t1 (by first | rfl | assumption | omega) (by first | rfl | assumption | omega) (by first | rfl | assumption | omega) (by first | rfl | assumption | omega) (by first | rfl | assumption | omega) (by first | rfl | assumption | omega) (by first | rfl | assumption | omega) hR1 s.heap.size) (cwV 0 hts gX6_compared_X6_sum rfl rfl rfl (by decide +kernel) ⟨Nat.le_of_ble_eq_true rfl, Nat.le_of_ble_eq_true rfl⟩) (zpV hK hN hZ hP hD hS hA [0, 1, 2] rfl (by decide) 0 rfl rfl rfl) rfl rfl hl.1 rfl (lv_room (Nat.le_of_ble_eq_true rfl)) dX6_compared_1 ⟨Nat.zero_le _, Nat.zero_le _⟩) hP hD hS hA [0, 1, 2] [] rfl rfl (by decide) (by decide) (fun r_3 w_2 H locs h_1 hP hD hS => ?_)
  obtain ⟨c9_4, o9_5, ST9_6, hq9_7, hx9_8, rfl, rfl⟩ := h_1
  have hP : va_P D vwCl [(h, .inr (6, [.ref m0, .ref m1, .ref m2, .int i3, .ref m4, .int (nI q1), .int (nI o9_5), .int (nI c9_4), .int (nI u), .ref m9, .ref m10, .ref m11, .int (nI tn), .ref m13, .int (nI sp), .int (nI pt), .ref m16, .ref m17, .ref m18, .ref m19])), (m0, .inl (cI, 380, .inl S)), (m9, .inl (cI, 124, .inl ST9_6))] H := hP
  have hD : va_D AA [(h, .inr (6, [.ref m0, .ref m1, .ref m2, .int i3, .ref m4, .int (nI q1), .int (nI o9_5), .int (nI c9_4), .int (nI u), .ref m9, .ref m10, .ref m11, .int (nI tn), .ref m13, .int (nI sp), .int (nI pt), .ref m16, .ref m17, .ref m18, .ref m19])), (m0, .inl (cI, 380, .inl S)), (m9, .inl (cI, 124, .inl ST9_6))] := hD
  refine lv_if_ne (tgt := 9) hx hb dX6_compared_4 (by decide) (fun c4_9 => ?_) (fun c4_9 => ?_)
  · have c4_9 := bI_n0.mp c4_9
    obtain ⟨hgd1, hge1, hgf1⟩ := hgc1 c4_9
    obtain ⟨he1, hE1, ho1⟩ := hx9_8 c4_9
    subst he1; subst hE1; subst ho1
    have hz := zLv_tt hR hR1 c4_9
    refine lv_aload_n hx hb dX6_compared_9 rfl (lv_at hl 0 rfl) ?_
    by_cases hpL : q1 < L
    · refine zcsE (va_runV (As := []) (rest := []) ⟨hx, hb, hml, hown, hts⟩ (c_X6_look l D cI cJ h m0 m1 m2 m4 m9 m10 m11 m13 m16 m17 m18 m19 i3 tn sp pt S ST L u T q1 ((c + t1.length)) 2 (by first | rfl | assumption | omega) (by first | rfl | assumption | omega) (by first | rfl | assumption | omega) (by first | rfl | assumption | omega) (by first | rfl | assumption | omega) (by omega) H.size) (cwV 0 hts gX6_compared_X6_look rfl rfl rfl (by decide +kernel) ⟨Nat.le_of_ble_eq_true rfl, Nat.le_of_ble_eq_true rfl⟩) (zpV hK hN hZ hP hD hS hA [0, 1] rfl (by decide) 0 rfl rfl rfl) rfl rfl hl.1 rfl (lv_room (Nat.le_of_ble_eq_true rfl)) dX6_compared_10 ⟨Nat.zero_le _, Nat.zero_le _⟩) ?_
      refine zrw (if_pos hpL) ?_
      refine lv_istore_n (lv' := [(1, .int (nI (T q1))), (0, .ref h)]) hx hb dX6_compared_13 rfl hl (by decide) rfl (fun ls hl => ?_)
      refine lv_iload_n hx hb dX6_compared_14 rfl (lv_at hl 0 rfl) ?_
      refine lv_bipush (v := nI 60) hx hb dX6_compared_15 (by decide) ?_
      refine lv_icmp_eq (tgt := 34) hx hb dX6_compared_17 (by decide) (fun c17_10 => ?_) (fun c17_10 => ?_)
      · have c17_10 : (T q1) = 60 := (nI_eq (a := T q1) (b := 60) (by have h91 := hT q1 (by omega); omega) (by have h91 := hT q1 (by omega); omega)).mp c17_10
        refine lv_aload_n hx hb dX6_compared_34 rfl (lv_at hl 1 rfl) ?_
        refine lv_dup hx hb dX6_compared_35 rfl ?_
        refine va_get (ci := 6) (v := .int (nI q1)) (C := RX6) (T := TX6) (N := 20) hx hb hts hin6 hown hK hP 0 rfl rfl 5 (by decide) (hts (.fieldLink RX6 61 "UpAllRoundModel" "at" "I") (List.mem_of_getElem? (i := 1) rfl)) (fun _ h9 => h9) rfl dX6_compared_36 ?_
        refine lv_iconst (v := nI 1) hx hb dX6_compared_39 (by decide) ?_
        refine lv_iadd hx hb dX6_compared_40 ?_
        refine zrw (nI_add _ _) ?_
        refine va_put (ci := 6) (v := .int (nI (q1 + 1))) (ty := .int) (C := RX6) (T := TX6) (N := 20) hx hb hts hin6 tyX6 tyX6_ok nmX6 hown hK hP hD hS 0 rfl rfl 5 (by decide) (hts (.fieldLink RX6 61 "UpAllRoundModel" "at" "I") (List.mem_of_getElem? (i := 1) rfl)) (fun _ h9 => h9) rfl (by decide +kernel) rfl rfl (Nat.le_of_ble_eq_true rfl) dX6_compared_41 (fun H locs hP hD hS => ?_)
        have hP : va_P D vwCl [(h, .inr (6, [.ref m0, .ref m1, .ref m2, .int i3, .ref m4, .int (nI (q1 + 1)), .int (nI 2), .int (nI ((c + t1.length))), .int (nI u), .ref m9, .ref m10, .ref m11, .int (nI tn), .ref m13, .int (nI sp), .int (nI pt), .ref m16, .ref m17, .ref m18, .ref m19])), (m0, .inl (cI, 380, .inl S)), (m9, .inl (cI, 124, .inl (zap2 u ST c t1)))] H := hP
        have hD : va_D AA [(h, .inr (6, [.ref m0, .ref m1, .ref m2, .int i3, .ref m4, .int (nI (q1 + 1)), .int (nI 2), .int (nI ((c + t1.length))), .int (nI u), .ref m9, .ref m10, .ref m11, .int (nI tn), .ref m13, .int (nI sp), .int (nI pt), .ref m16, .ref m17, .ref m18, .ref m19])), (m0, .inl (cI, 380, .inl S)), (m9, .inl (cI, 124, .inl (zap2 u ST c t1)))] := hD
        refine lv_aload_n hx hb dX6_compared_44 rfl (lv_at hl 1 rfl) ?_
        obtain ⟨b2, q2, t2, hR2⟩ : ∃ (b0 : Bool) (q0 : Nat) (t0 : zTks), zLS T L (zQ T L u 3) 2 (q1 + 1) = (b0, q0, t0) := ⟨_, _, _, rfl⟩
        have hg2 := (zLS_gd (T := T) (zQ_gd (T := T) (L := L) (u := u) 3) 2) (q1 + 1) (by omega)
        rw [hR2] at hg2
        obtain ⟨hga2, hgb2, hgc2⟩ : (q1 + 1) ≤ q2 ∧ q2 ≤ L ∧ (b2 = true → (q1 + 1) < q2 ∧ t2.length ≤ q2 - (q1 + 1) ∧ zw1 t2) := hg2
        refine zci (wr := []) (va_runV (As := []) (rest := []) ⟨hx, hb, hml, hown, hts⟩ (c_X6_sum_2 l D cI cJ h m0 m1 m2 m4 m9 m10 m11 m13 m16 m17 m18 m19 i3 tn sp pt S (zap2 u ST c t1) L u T (q1 + 1) ((c + t1.length)) b2 q2 t2 (by first | rfl | assumption | omega) (by first | rfl | assumption | omega) (by first | rfl | assumption | omega) (by first | rfl | assumption | omega) (by first | rfl | assumption | omega) (by omega) (by omega) hR2 H.size) (cwV 0 hts gX6_compared_X6_sum rfl rfl rfl (by decide +kernel) ⟨Nat.le_of_ble_eq_true rfl, Nat.le_of_ble_eq_true rfl⟩) (zpV hK hN hZ hP hD hS hA [0, 1, 2] rfl (by decide) 0 rfl rfl rfl) rfl rfl hl.1 rfl (lv_room (Nat.le_of_ble_eq_true rfl)) dX6_compared_45 ⟨Nat.zero_le _, Nat.zero_le _⟩) hP hD hS hA [0, 1, 2] [] rfl rfl (by decide) (by decide) (fun r_13 w_12 H locs h_11 hP hD hS => ?_)
        obtain ⟨c9_14, o9_15, ST9_16, hq9_17, hx9_18, rfl, rfl⟩ := h_11
        have hP : va_P D vwCl [(h, .inr (6, [.ref m0, .ref m1, .ref m2, .int i3, .ref m4, .int (nI q2), .int (nI o9_15), .int (nI c9_14), .int (nI u), .ref m9, .ref m10, .ref m11, .int (nI tn), .ref m13, .int (nI sp), .int (nI pt), .ref m16, .ref m17, .ref m18, .ref m19])), (m0, .inl (cI, 380, .inl S)), (m9, .inl (cI, 124, .inl ST9_16))] H := hP
        have hD : va_D AA [(h, .inr (6, [.ref m0, .ref m1, .ref m2, .int i3, .ref m4, .int (nI q2), .int (nI o9_15), .int (nI c9_14), .int (nI u), .ref m9, .ref m10, .ref m11, .int (nI tn), .ref m13, .int (nI sp), .int (nI pt), .ref m16, .ref m17, .ref m18, .ref m19])), (m0, .inl (cI, 380, .inl S)), (m9, .inl (cI, 124, .inl ST9_16))] := hD
        refine lv_if_ne (tgt := 53) hx hb dX6_compared_48 (by decide) (fun c48_19 => ?_) (fun c48_19 => ?_)
        · have c48_19 := bI_n0.mp c48_19
          obtain ⟨hgd2, hge2, hgf2⟩ := hgc2 c48_19
          obtain ⟨he2, hE2, ho2⟩ := hx9_18 c48_19
          subst he2; subst hE2; subst ho2
          refine lv_aload_n hx hb dX6_compared_53 rfl (lv_at hl 1 rfl) ?_
          refine lv_iconst (v := nI 3) hx hb dX6_compared_54 (by decide) ?_
          refine lv_iload_n hx hb dX6_compared_55 rfl (lv_at hl 0 rfl) ?_
          refine zcv (wr := [(m0, .inl (cI, 380, .inl S))]) (va_runV (As := [.int (nI 3), .int (nI (T q1))]) (rest := []) ⟨hx, hb, hml, hown, hts⟩ (c_X6_step1 l D cI cJ h m0 m1 m2 m4 m9 m10 m11 m13 m16 m17 m18 m19 i3 tn sp pt u q2 2 ((c + t1.length + t2.length)) (zap2 u (zap2 u ST c t1) (c + t1.length) t2) 3 (nI (T q1)) (by omega) H.size) (cwV 2 hts gX6_compared_X6_step1 rfl rfl rfl (by decide +kernel) ⟨Nat.le_of_ble_eq_true rfl, Nat.le_of_ble_eq_true rfl⟩) (zpV hK hN hZ hP hD hS hA [0, 2] rfl (by decide) 0 rfl rfl rfl) rfl rfl hl.1 rfl (lv_room (Nat.le_of_ble_eq_true rfl)) dX6_compared_56 ⟨Nat.zero_le _, Nat.zero_le _⟩) hP hD hS hA [0, 2] [1] rfl rfl (by decide) (by decide) (fun w_21 H locs h_20 hP hD hS => ?_)
          obtain rfl := h_20
          have hP : va_P D vwCl [(m0, .inl (cI, 380, .inl S)), (h, .inr (6, [.ref m0, .ref m1, .ref m2, .int i3, .ref m4, .int (nI q2), .int (nI 2), .int (nI ((((c + t1.length + t2.length)) + 1))), .int (nI u), .ref m9, .ref m10, .ref m11, .int (nI tn), .ref m13, .int (nI sp), .int (nI pt), .ref m16, .ref m17, .ref m18, .ref m19])), (m9, .inl (cI, 124, .inl ((upd (upd (zap2 u (zap2 u ST c t1) (c + t1.length) t2) (2 * ((c + t1.length + t2.length))) (nI 3)) (2 * ((c + t1.length + t2.length)) + 1) (nI (T q1))))))] H := hP
          have hD : va_D AA [(m0, .inl (cI, 380, .inl S)), (h, .inr (6, [.ref m0, .ref m1, .ref m2, .int i3, .ref m4, .int (nI q2), .int (nI 2), .int (nI ((((c + t1.length + t2.length)) + 1))), .int (nI u), .ref m9, .ref m10, .ref m11, .int (nI tn), .ref m13, .int (nI sp), .int (nI pt), .ref m16, .ref m17, .ref m18, .ref m19])), (m9, .inl (cI, 124, .inl ((upd (upd (zap2 u (zap2 u ST c t1) (c + t1.length) t2) (2 * ((c + t1.length + t2.length))) (nI 3)) (2 * ((c + t1.length + t2.length)) + 1) (nI (T q1))))))] := hD
          refine lv_iconst (v := nI 1) hx hb dX6_compared_59 (by decide) ?_
          have hP := hP.sub (ws' := [(h, .inr (6, [.ref m0, .ref m1, .ref m2, .int i3, .ref m4, .int (nI q2), .int (nI 2), .int (nI ((((c + t1.length + t2.length)) + 1))), .int (nI u), .ref m9, .ref m10, .ref m11, .int (nI tn), .ref m13, .int (nI sp), .int (nI pt), .ref m16, .ref m17, .ref m18, .ref m19])), (m0, .inl (cI, 380, .inl S)), (m9, .inl (cI, 124, .inl ((upd (upd (zap2 u (zap2 u ST c t1) (c + t1.length) t2) (2 * ((c + t1.length + t2.length))) (nI 3)) (2 * ((c + t1.length + t2.length)) + 1) (nI (T q1))))))]) [1, 0, 2] rfl
          have hD := hD.sub (ws' := [(h, .inr (6, [.ref m0, .ref m1, .ref m2, .int i3, .ref m4, .int (nI q2), .int (nI 2), .int (nI ((((c + t1.length + t2.length)) + 1))), .int (nI u), .ref m9, .ref m10, .ref m11, .int (nI tn), .ref m13, .int (nI sp), .int (nI pt), .ref m16, .ref m17, .ref m18, .ref m19])), (m0, .inl (cI, 380, .inl S)), (m9, .inl (cI, 124, .inl ((upd (upd (zap2 u (zap2 u ST c t1) (c + t1.length) t2) (2 * ((c + t1.length + t2.length))) (nI 3)) (2 * ((c + t1.length + t2.length)) + 1) (nI (T q1))))))]) [1, 0, 2] (by decide) rfl
          exact hret hP hD hS dX6_compared_60 rfl (by obtain ⟨e1, e2, e3⟩ := zL2 hz ⟨by omega, zlv_2.mpr (by omega)⟩ hR2 (by assumption); subst e1; subst e2; subst e3; exact ⟨_, _, _, show c + t1.length + t2.length + 1 ≤ _ from (by omega), fun _ => ⟨zlen1, zap21 (t := (3, T q1)), rfl⟩, (bI_t rfl).symm, rfl⟩)
        · have c48_19 := bI_0.mp c48_19
          refine lv_iconst (v := nI 0) hx hb dX6_compared_51 (by decide) ?_
          exact hret hP hD hS dX6_compared_52 rfl (by obtain ⟨e1, e2⟩ := zLf hz ⟨by omega, zlv_2.mpr (by omega)⟩ hR2 (by assumption); subst e1; subst e2; exact ⟨_, _, _, hq9_17, fun h9 => (by cases h9), (bI_f (by decide)).symm, rfl⟩)
      · have c17_10 : ¬ ((T q1) = 60) := fun h9 => c17_10 ((nI_eq (a := T q1) (b := 60) (by have h91 := hT q1 (by omega); omega) (by have h91 := hT q1 (by omega); omega)).mpr h9)
        refine lv_iload_n hx hb dX6_compared_20 rfl (lv_at hl 0 rfl) ?_
        refine lv_bipush (v := nI 61) hx hb dX6_compared_21 (by decide) ?_
        refine lv_icmp_eq (tgt := 34) hx hb dX6_compared_23 (by decide) (fun c23_22 => ?_) (fun c23_22 => ?_)
        · have c23_22 : (T q1) = 61 := (nI_eq (a := T q1) (b := 61) (by have h91 := hT q1 (by omega); omega) (by have h91 := hT q1 (by omega); omega)).mp c23_22
          refine lv_aload_n hx hb dX6_compared_34 rfl (lv_at hl 1 rfl) ?_
          refine lv_dup hx hb dX6_compared_35 rfl ?_
          refine va_get (ci := 6) (v := .int (nI q1)) (C := RX6) (T := TX6) (N := 20) hx hb hts hin6 hown hK hP 0 rfl rfl 5 (by decide) (hts (.fieldLink RX6 61 "UpAllRoundModel" "at" "I") (List.mem_of_getElem? (i := 1) rfl)) (fun _ h9 => h9) rfl dX6_compared_36 ?_
          refine lv_iconst (v := nI 1) hx hb dX6_compared_39 (by decide) ?_
          refine lv_iadd hx hb dX6_compared_40 ?_
          refine zrw (nI_add _ _) ?_
          refine va_put (ci := 6) (v := .int (nI (q1 + 1))) (ty := .int) (C := RX6) (T := TX6) (N := 20) hx hb hts hin6 tyX6 tyX6_ok nmX6 hown hK hP hD hS 0 rfl rfl 5 (by decide) (hts (.fieldLink RX6 61 "UpAllRoundModel" "at" "I") (List.mem_of_getElem? (i := 1) rfl)) (fun _ h9 => h9) rfl (by decide +kernel) rfl rfl (Nat.le_of_ble_eq_true rfl) dX6_compared_41 (fun H locs hP hD hS => ?_)
          have hP : va_P D vwCl [(h, .inr (6, [.ref m0, .ref m1, .ref m2, .int i3, .ref m4, .int (nI (q1 + 1)), .int (nI 2), .int (nI ((c + t1.length))), .int (nI u), .ref m9, .ref m10, .ref m11, .int (nI tn), .ref m13, .int (nI sp), .int (nI pt), .ref m16, .ref m17, .ref m18, .ref m19])), (m0, .inl (cI, 380, .inl S)), (m9, .inl (cI, 124, .inl (zap2 u ST c t1)))] H := hP
          have hD : va_D AA [(h, .inr (6, [.ref m0, .ref m1, .ref m2, .int i3, .ref m4, .int (nI (q1 + 1)), .int (nI 2), .int (nI ((c + t1.length))), .int (nI u), .ref m9, .ref m10, .ref m11, .int (nI tn), .ref m13, .int (nI sp), .int (nI pt), .ref m16, .ref m17, .ref m18, .ref m19])), (m0, .inl (cI, 380, .inl S)), (m9, .inl (cI, 124, .inl (zap2 u ST c t1)))] := hD
          refine lv_aload_n hx hb dX6_compared_44 rfl (lv_at hl 1 rfl) ?_
          obtain ⟨b2, q2, t2, hR2⟩ : ∃ (b0 : Bool) (q0 : Nat) (t0 : zTks), zLS T L (zQ T L u 3) 2 (q1 + 1) = (b0, q0, t0) := ⟨_, _, _, rfl⟩
          have hg2 := (zLS_gd (T := T) (zQ_gd (T := T) (L := L) (u := u) 3) 2) (q1 + 1) (by omega)
          rw [hR2] at hg2
          obtain ⟨hga2, hgb2, hgc2⟩ : (q1 + 1) ≤ q2 ∧ q2 ≤ L ∧ (b2 = true → (q1 + 1) < q2 ∧ t2.length ≤ q2 - (q1 + 1) ∧ zw1 t2) := hg2
          refine zci (wr := []) (va_runV (As := []) (rest := []) ⟨hx, hb, hml, hown, hts⟩ (c_X6_sum_2 l D cI cJ h m0 m1 m2 m4 m9 m10 m11 m13 m16 m17 m18 m19 i3 tn sp pt S (zap2 u ST c t1) L u T (q1 + 1) ((c + t1.length)) b2 q2 t2 (by first | rfl | assumption | omega) (by first | rfl | assumption | omega) (by first | rfl | assumption | omega) (by first | rfl | assumption | omega) (by first | rfl | assumption | omega) (by omega) (by omega) hR2 H.size) (cwV 0 hts gX6_compared_X6_sum rfl rfl rfl (by decide +kernel) ⟨Nat.le_of_ble_eq_true rfl, Nat.le_of_ble_eq_true rfl⟩) (zpV hK hN hZ hP hD hS hA [0, 1, 2] rfl (by decide) 0 rfl rfl rfl) rfl rfl hl.1 rfl (lv_room (Nat.le_of_ble_eq_true rfl)) dX6_compared_45 ⟨Nat.zero_le _, Nat.zero_le _⟩) hP hD hS hA [0, 1, 2] [] rfl rfl (by decide) (by decide) (fun r_25 w_24 H locs h_23 hP hD hS => ?_)
          obtain ⟨c9_26, o9_27, ST9_28, hq9_29, hx9_30, rfl, rfl⟩ := h_23
          have hP : va_P D vwCl [(h, .inr (6, [.ref m0, .ref m1, .ref m2, .int i3, .ref m4, .int (nI q2), .int (nI o9_27), .int (nI c9_26), .int (nI u), .ref m9, .ref m10, .ref m11, .int (nI tn), .ref m13, .int (nI sp), .int (nI pt), .ref m16, .ref m17, .ref m18, .ref m19])), (m0, .inl (cI, 380, .inl S)), (m9, .inl (cI, 124, .inl ST9_28))] H := hP
          have hD : va_D AA [(h, .inr (6, [.ref m0, .ref m1, .ref m2, .int i3, .ref m4, .int (nI q2), .int (nI o9_27), .int (nI c9_26), .int (nI u), .ref m9, .ref m10, .ref m11, .int (nI tn), .ref m13, .int (nI sp), .int (nI pt), .ref m16, .ref m17, .ref m18, .ref m19])), (m0, .inl (cI, 380, .inl S)), (m9, .inl (cI, 124, .inl ST9_28))] := hD
          refine lv_if_ne (tgt := 53) hx hb dX6_compared_48 (by decide) (fun c48_31 => ?_) (fun c48_31 => ?_)
          · have c48_31 := bI_n0.mp c48_31
            obtain ⟨hgd2, hge2, hgf2⟩ := hgc2 c48_31
            obtain ⟨he2, hE2, ho2⟩ := hx9_30 c48_31
            subst he2; subst hE2; subst ho2
            refine lv_aload_n hx hb dX6_compared_53 rfl (lv_at hl 1 rfl) ?_
            refine lv_iconst (v := nI 3) hx hb dX6_compared_54 (by decide) ?_
            refine lv_iload_n hx hb dX6_compared_55 rfl (lv_at hl 0 rfl) ?_
            refine zcv (wr := [(m0, .inl (cI, 380, .inl S))]) (va_runV (As := [.int (nI 3), .int (nI (T q1))]) (rest := []) ⟨hx, hb, hml, hown, hts⟩ (c_X6_step1 l D cI cJ h m0 m1 m2 m4 m9 m10 m11 m13 m16 m17 m18 m19 i3 tn sp pt u q2 2 ((c + t1.length + t2.length)) (zap2 u (zap2 u ST c t1) (c + t1.length) t2) 3 (nI (T q1)) (by omega) H.size) (cwV 2 hts gX6_compared_X6_step1 rfl rfl rfl (by decide +kernel) ⟨Nat.le_of_ble_eq_true rfl, Nat.le_of_ble_eq_true rfl⟩) (zpV hK hN hZ hP hD hS hA [0, 2] rfl (by decide) 0 rfl rfl rfl) rfl rfl hl.1 rfl (lv_room (Nat.le_of_ble_eq_true rfl)) dX6_compared_56 ⟨Nat.zero_le _, Nat.zero_le _⟩) hP hD hS hA [0, 2] [1] rfl rfl (by decide) (by decide) (fun w_33 H locs h_32 hP hD hS => ?_)
            obtain rfl := h_32
            have hP : va_P D vwCl [(m0, .inl (cI, 380, .inl S)), (h, .inr (6, [.ref m0, .ref m1, .ref m2, .int i3, .ref m4, .int (nI q2), .int (nI 2), .int (nI ((((c + t1.length + t2.length)) + 1))), .int (nI u), .ref m9, .ref m10, .ref m11, .int (nI tn), .ref m13, .int (nI sp), .int (nI pt), .ref m16, .ref m17, .ref m18, .ref m19])), (m9, .inl (cI, 124, .inl ((upd (upd (zap2 u (zap2 u ST c t1) (c + t1.length) t2) (2 * ((c + t1.length + t2.length))) (nI 3)) (2 * ((c + t1.length + t2.length)) + 1) (nI (T q1))))))] H := hP
            have hD : va_D AA [(m0, .inl (cI, 380, .inl S)), (h, .inr (6, [.ref m0, .ref m1, .ref m2, .int i3, .ref m4, .int (nI q2), .int (nI 2), .int (nI ((((c + t1.length + t2.length)) + 1))), .int (nI u), .ref m9, .ref m10, .ref m11, .int (nI tn), .ref m13, .int (nI sp), .int (nI pt), .ref m16, .ref m17, .ref m18, .ref m19])), (m9, .inl (cI, 124, .inl ((upd (upd (zap2 u (zap2 u ST c t1) (c + t1.length) t2) (2 * ((c + t1.length + t2.length))) (nI 3)) (2 * ((c + t1.length + t2.length)) + 1) (nI (T q1))))))] := hD
            refine lv_iconst (v := nI 1) hx hb dX6_compared_59 (by decide) ?_
            have hP := hP.sub (ws' := [(h, .inr (6, [.ref m0, .ref m1, .ref m2, .int i3, .ref m4, .int (nI q2), .int (nI 2), .int (nI ((((c + t1.length + t2.length)) + 1))), .int (nI u), .ref m9, .ref m10, .ref m11, .int (nI tn), .ref m13, .int (nI sp), .int (nI pt), .ref m16, .ref m17, .ref m18, .ref m19])), (m0, .inl (cI, 380, .inl S)), (m9, .inl (cI, 124, .inl ((upd (upd (zap2 u (zap2 u ST c t1) (c + t1.length) t2) (2 * ((c + t1.length + t2.length))) (nI 3)) (2 * ((c + t1.length + t2.length)) + 1) (nI (T q1))))))]) [1, 0, 2] rfl
            have hD := hD.sub (ws' := [(h, .inr (6, [.ref m0, .ref m1, .ref m2, .int i3, .ref m4, .int (nI q2), .int (nI 2), .int (nI ((((c + t1.length + t2.length)) + 1))), .int (nI u), .ref m9, .ref m10, .ref m11, .int (nI tn), .ref m13, .int (nI sp), .int (nI pt), .ref m16, .ref m17, .ref m18, .ref m19])), (m0, .inl (cI, 380, .inl S)), (m9, .inl (cI, 124, .inl ((upd (upd (zap2 u (zap2 u ST c t1) (c + t1.length) t2) (2 * ((c + t1.length + t2.length))) (nI 3)) (2 * ((c + t1.length + t2.length)) + 1) (nI (T q1))))))]) [1, 0, 2] (by decide) rfl
            exact hret hP hD hS dX6_compared_60 rfl (by obtain ⟨e1, e2, e3⟩ := zL2 hz ⟨by omega, zlv_2.mpr (by omega)⟩ hR2 (by assumption); subst e1; subst e2; subst e3; exact ⟨_, _, _, show c + t1.length + t2.length + 1 ≤ _ from (by omega), fun _ => ⟨zlen1, zap21 (t := (3, T q1)), rfl⟩, (bI_t rfl).symm, rfl⟩)
          · have c48_31 := bI_0.mp c48_31
            refine lv_iconst (v := nI 0) hx hb dX6_compared_51 (by decide) ?_
            exact hret hP hD hS dX6_compared_52 rfl (by obtain ⟨e1, e2⟩ := zLf hz ⟨by omega, zlv_2.mpr (by omega)⟩ hR2 (by assumption); subst e1; subst e2; exact ⟨_, _, _, hq9_29, fun h9 => (by cases h9), (bI_f (by decide)).symm, rfl⟩)
        · have c23_22 : ¬ ((T q1) = 61) := fun h9 => c23_22 ((nI_eq (a := T q1) (b := 61) (by have h91 := hT q1 (by omega); omega) (by have h91 := hT q1 (by omega); omega)).mpr h9)
          refine lv_iload_n hx hb dX6_compared_26 rfl (lv_at hl 0 rfl) ?_
          refine lv_bipush (v := nI 62) hx hb dX6_compared_27 (by decide) ?_
          refine lv_icmp_eq (tgt := 34) hx hb dX6_compared_29 (by decide) (fun c29_34 => ?_) (fun c29_34 => ?_)
          · have c29_34 : (T q1) = 62 := (nI_eq (a := T q1) (b := 62) (by have h91 := hT q1 (by omega); omega) (by have h91 := hT q1 (by omega); omega)).mp c29_34
            refine lv_aload_n hx hb dX6_compared_34 rfl (lv_at hl 1 rfl) ?_
            refine lv_dup hx hb dX6_compared_35 rfl ?_
            refine va_get (ci := 6) (v := .int (nI q1)) (C := RX6) (T := TX6) (N := 20) hx hb hts hin6 hown hK hP 0 rfl rfl 5 (by decide) (hts (.fieldLink RX6 61 "UpAllRoundModel" "at" "I") (List.mem_of_getElem? (i := 1) rfl)) (fun _ h9 => h9) rfl dX6_compared_36 ?_
            refine lv_iconst (v := nI 1) hx hb dX6_compared_39 (by decide) ?_
            refine lv_iadd hx hb dX6_compared_40 ?_
            refine zrw (nI_add _ _) ?_
            refine va_put (ci := 6) (v := .int (nI (q1 + 1))) (ty := .int) (C := RX6) (T := TX6) (N := 20) hx hb hts hin6 tyX6 tyX6_ok nmX6 hown hK hP hD hS 0 rfl rfl 5 (by decide) (hts (.fieldLink RX6 61 "UpAllRoundModel" "at" "I") (List.mem_of_getElem? (i := 1) rfl)) (fun _ h9 => h9) rfl (by decide +kernel) rfl rfl (Nat.le_of_ble_eq_true rfl) dX6_compared_41 (fun H locs hP hD hS => ?_)
            have hP : va_P D vwCl [(h, .inr (6, [.ref m0, .ref m1, .ref m2, .int i3, .ref m4, .int (nI (q1 + 1)), .int (nI 2), .int (nI ((c + t1.length))), .int (nI u), .ref m9, .ref m10, .ref m11, .int (nI tn), .ref m13, .int (nI sp), .int (nI pt), .ref m16, .ref m17, .ref m18, .ref m19])), (m0, .inl (cI, 380, .inl S)), (m9, .inl (cI, 124, .inl (zap2 u ST c t1)))] H := hP
            have hD : va_D AA [(h, .inr (6, [.ref m0, .ref m1, .ref m2, .int i3, .ref m4, .int (nI (q1 + 1)), .int (nI 2), .int (nI ((c + t1.length))), .int (nI u), .ref m9, .ref m10, .ref m11, .int (nI tn), .ref m13, .int (nI sp), .int (nI pt), .ref m16, .ref m17, .ref m18, .ref m19])), (m0, .inl (cI, 380, .inl S)), (m9, .inl (cI, 124, .inl (zap2 u ST c t1)))] := hD
            refine lv_aload_n hx hb dX6_compared_44 rfl (lv_at hl 1 rfl) ?_
            obtain ⟨b2, q2, t2, hR2⟩ : ∃ (b0 : Bool) (q0 : Nat) (t0 : zTks), zLS T L (zQ T L u 3) 2 (q1 + 1) = (b0, q0, t0) := ⟨_, _, _, rfl⟩
            have hg2 := (zLS_gd (T := T) (zQ_gd (T := T) (L := L) (u := u) 3) 2) (q1 + 1) (by omega)
            rw [hR2] at hg2
            obtain ⟨hga2, hgb2, hgc2⟩ : (q1 + 1) ≤ q2 ∧ q2 ≤ L ∧ (b2 = true → (q1 + 1) < q2 ∧ t2.length ≤ q2 - (q1 + 1) ∧ zw1 t2) := hg2
            refine zci (wr := []) (va_runV (As := []) (rest := []) ⟨hx, hb, hml, hown, hts⟩ (c_X6_sum_2 l D cI cJ h m0 m1 m2 m4 m9 m10 m11 m13 m16 m17 m18 m19 i3 tn sp pt S (zap2 u ST c t1) L u T (q1 + 1) ((c + t1.length)) b2 q2 t2 (by first | rfl | assumption | omega) (by first | rfl | assumption | omega) (by first | rfl | assumption | omega) (by first | rfl | assumption | omega) (by first | rfl | assumption | omega) (by omega) (by omega) hR2 H.size) (cwV 0 hts gX6_compared_X6_sum rfl rfl rfl (by decide +kernel) ⟨Nat.le_of_ble_eq_true rfl, Nat.le_of_ble_eq_true rfl⟩) (zpV hK hN hZ hP hD hS hA [0, 1, 2] rfl (by decide) 0 rfl rfl rfl) rfl rfl hl.1 rfl (lv_room (Nat.le_of_ble_eq_true rfl)) dX6_compared_45 ⟨Nat.zero_le _, Nat.zero_le _⟩) hP hD hS hA [0, 1, 2] [] rfl rfl (by decide) (by decide) (fun r_37 w_36 H locs h_35 hP hD hS => ?_)
            obtain ⟨c9_38, o9_39, ST9_40, hq9_41, hx9_42, rfl, rfl⟩ := h_35
            have hP : va_P D vwCl [(h, .inr (6, [.ref m0, .ref m1, .ref m2, .int i3, .ref m4, .int (nI q2), .int (nI o9_39), .int (nI c9_38), .int (nI u), .ref m9, .ref m10, .ref m11, .int (nI tn), .ref m13, .int (nI sp), .int (nI pt), .ref m16, .ref m17, .ref m18, .ref m19])), (m0, .inl (cI, 380, .inl S)), (m9, .inl (cI, 124, .inl ST9_40))] H := hP
            have hD : va_D AA [(h, .inr (6, [.ref m0, .ref m1, .ref m2, .int i3, .ref m4, .int (nI q2), .int (nI o9_39), .int (nI c9_38), .int (nI u), .ref m9, .ref m10, .ref m11, .int (nI tn), .ref m13, .int (nI sp), .int (nI pt), .ref m16, .ref m17, .ref m18, .ref m19])), (m0, .inl (cI, 380, .inl S)), (m9, .inl (cI, 124, .inl ST9_40))] := hD
            refine lv_if_ne (tgt := 53) hx hb dX6_compared_48 (by decide) (fun c48_43 => ?_) (fun c48_43 => ?_)
            · have c48_43 := bI_n0.mp c48_43
              obtain ⟨hgd2, hge2, hgf2⟩ := hgc2 c48_43
              obtain ⟨he2, hE2, ho2⟩ := hx9_42 c48_43
              subst he2; subst hE2; subst ho2
              refine lv_aload_n hx hb dX6_compared_53 rfl (lv_at hl 1 rfl) ?_
              refine lv_iconst (v := nI 3) hx hb dX6_compared_54 (by decide) ?_
              refine lv_iload_n hx hb dX6_compared_55 rfl (lv_at hl 0 rfl) ?_
              refine zcv (wr := [(m0, .inl (cI, 380, .inl S))]) (va_runV (As := [.int (nI 3), .int (nI (T q1))]) (rest := []) ⟨hx, hb, hml, hown, hts⟩ (c_X6_step1 l D cI cJ h m0 m1 m2 m4 m9 m10 m11 m13 m16 m17 m18 m19 i3 tn sp pt u q2 2 ((c + t1.length + t2.length)) (zap2 u (zap2 u ST c t1) (c + t1.length) t2) 3 (nI (T q1)) (by omega) H.size) (cwV 2 hts gX6_compared_X6_step1 rfl rfl rfl (by decide +kernel) ⟨Nat.le_of_ble_eq_true rfl, Nat.le_of_ble_eq_true rfl⟩) (zpV hK hN hZ hP hD hS hA [0, 2] rfl (by decide) 0 rfl rfl rfl) rfl rfl hl.1 rfl (lv_room (Nat.le_of_ble_eq_true rfl)) dX6_compared_56 ⟨Nat.zero_le _, Nat.zero_le _⟩) hP hD hS hA [0, 2] [1] rfl rfl (by decide) (by decide) (fun w_45 H locs h_44 hP hD hS => ?_)
              obtain rfl := h_44
              have hP : va_P D vwCl [(m0, .inl (cI, 380, .inl S)), (h, .inr (6, [.ref m0, .ref m1, .ref m2, .int i3, .ref m4, .int (nI q2), .int (nI 2), .int (nI ((((c + t1.length + t2.length)) + 1))), .int (nI u), .ref m9, .ref m10, .ref m11, .int (nI tn), .ref m13, .int (nI sp), .int (nI pt), .ref m16, .ref m17, .ref m18, .ref m19])), (m9, .inl (cI, 124, .inl ((upd (upd (zap2 u (zap2 u ST c t1) (c + t1.length) t2) (2 * ((c + t1.length + t2.length))) (nI 3)) (2 * ((c + t1.length + t2.length)) + 1) (nI (T q1))))))] H := hP
              have hD : va_D AA [(m0, .inl (cI, 380, .inl S)), (h, .inr (6, [.ref m0, .ref m1, .ref m2, .int i3, .ref m4, .int (nI q2), .int (nI 2), .int (nI ((((c + t1.length + t2.length)) + 1))), .int (nI u), .ref m9, .ref m10, .ref m11, .int (nI tn), .ref m13, .int (nI sp), .int (nI pt), .ref m16, .ref m17, .ref m18, .ref m19])), (m9, .inl (cI, 124, .inl ((upd (upd (zap2 u (zap2 u ST c t1) (c + t1.length) t2) (2 * ((c + t1.length + t2.length))) (nI 3)) (2 * ((c + t1.length + t2.length)) + 1) (nI (T q1))))))] := hD
              refine lv_iconst (v := nI 1) hx hb dX6_compared_59 (by decide) ?_
              have hP := hP.sub (ws' := [(h, .inr (6, [.ref m0, .ref m1, .ref m2, .int i3, .ref m4, .int (nI q2), .int (nI 2), .int (nI ((((c + t1.length + t2.length)) + 1))), .int (nI u), .ref m9, .ref m10, .ref m11, .int (nI tn), .ref m13, .int (nI sp), .int (nI pt), .ref m16, .ref m17, .ref m18, .ref m19])), (m0, .inl (cI, 380, .inl S)), (m9, .inl (cI, 124, .inl ((upd (upd (zap2 u (zap2 u ST c t1) (c + t1.length) t2) (2 * ((c + t1.length + t2.length))) (nI 3)) (2 * ((c + t1.length + t2.length)) + 1) (nI (T q1))))))]) [1, 0, 2] rfl
              have hD := hD.sub (ws' := [(h, .inr (6, [.ref m0, .ref m1, .ref m2, .int i3, .ref m4, .int (nI q2), .int (nI 2), .int (nI ((((c + t1.length + t2.length)) + 1))), .int (nI u), .ref m9, .ref m10, .ref m11, .int (nI tn), .ref m13, .int (nI sp), .int (nI pt), .ref m16, .ref m17, .ref m18, .ref m19])), (m0, .inl (cI, 380, .inl S)), (m9, .inl (cI, 124, .inl ((upd (upd (zap2 u (zap2 u ST c t1) (c + t1.length) t2) (2 * ((c + t1.length + t2.length))) (nI 3)) (2 * ((c + t1.length + t2.length)) + 1) (nI (T q1))))))]) [1, 0, 2] (by decide) rfl
              exact hret hP hD hS dX6_compared_60 rfl (by obtain ⟨e1, e2, e3⟩ := zL2 hz ⟨by omega, zlv_2.mpr (by omega)⟩ hR2 (by assumption); subst e1; subst e2; subst e3; exact ⟨_, _, _, show c + t1.length + t2.length + 1 ≤ _ from (by omega), fun _ => ⟨zlen1, zap21 (t := (3, T q1)), rfl⟩, (bI_t rfl).symm, rfl⟩)
            · have c48_43 := bI_0.mp c48_43
              refine lv_iconst (v := nI 0) hx hb dX6_compared_51 (by decide) ?_
              exact hret hP hD hS dX6_compared_52 rfl (by obtain ⟨e1, e2⟩ := zLf hz ⟨by omega, zlv_2.mpr (by omega)⟩ hR2 (by assumption); subst e1; subst e2; exact ⟨_, _, _, hq9_41, fun h9 => (by cases h9), (bI_f (by decide)).symm, rfl⟩)
          · have c29_34 : ¬ ((T q1) = 62) := fun h9 => c29_34 ((nI_eq (a := T q1) (b := 62) (by have h91 := hT q1 (by omega); omega) (by have h91 := hT q1 (by omega); omega)).mpr h9)
            refine lv_iconst (v := nI 1) hx hb dX6_compared_32 (by decide) ?_
            exact hret hP hD hS dX6_compared_33 rfl (by obtain ⟨e1, e2, e3⟩ := zLe (f := 60) hz (fun h9 => by have h91 := h9.1; have h92 := zlv_2.mp h9.2; omega); subst e1; subst e2; subst e3; exact ⟨_, _, _, (by omega), fun _ => ⟨rfl, rfl, rfl⟩, (bI_t rfl).symm, rfl⟩)
    · refine zcsE (va_runV (As := []) (rest := []) ⟨hx, hb, hml, hown, hts⟩ (c_X6_look l D cI cJ h m0 m1 m2 m4 m9 m10 m11 m13 m16 m17 m18 m19 i3 tn sp pt S ST L u T q1 ((c + t1.length)) 2 (by first | rfl | assumption | omega) (by first | rfl | assumption | omega) (by first | rfl | assumption | omega) (by first | rfl | assumption | omega) (by first | rfl | assumption | omega) (by omega) H.size) (cwV 0 hts gX6_compared_X6_look rfl rfl rfl (by decide +kernel) ⟨Nat.le_of_ble_eq_true rfl, Nat.le_of_ble_eq_true rfl⟩) (zpV hK hN hZ hP hD hS hA [0, 1] rfl (by decide) 0 rfl rfl rfl) rfl rfl hl.1 rfl (lv_room (Nat.le_of_ble_eq_true rfl)) dX6_compared_10 ⟨Nat.zero_le _, Nat.zero_le _⟩) ?_
      refine zrw (if_neg hpL) ?_
      refine lv_istore_n (lv' := [(1, .int ((-1))), (0, .ref h)]) hx hb dX6_compared_13 rfl hl (by decide) rfl (fun ls hl => ?_)
      refine lv_iload_n hx hb dX6_compared_14 rfl (lv_at hl 0 rfl) ?_
      refine lv_bipush (v := nI 60) hx hb dX6_compared_15 (by decide) ?_
      refine lv_icmp_eq (tgt := 34) hx hb dX6_compared_17 (by decide) (fun c17_46 => ?_) (fun c17_46 => ?_)
      · exact absurd c17_46 (by decide)
      · refine lv_iload_n hx hb dX6_compared_20 rfl (lv_at hl 0 rfl) ?_
        refine lv_bipush (v := nI 61) hx hb dX6_compared_21 (by decide) ?_
        refine lv_icmp_eq (tgt := 34) hx hb dX6_compared_23 (by decide) (fun c23_47 => ?_) (fun c23_47 => ?_)
        · exact absurd c23_47 (by decide)
        · refine lv_iload_n hx hb dX6_compared_26 rfl (lv_at hl 0 rfl) ?_
          refine lv_bipush (v := nI 62) hx hb dX6_compared_27 (by decide) ?_
          refine lv_icmp_eq (tgt := 34) hx hb dX6_compared_29 (by decide) (fun c29_48 => ?_) (fun c29_48 => ?_)
          · exact absurd c29_48 (by decide)
          · refine lv_iconst (v := nI 1) hx hb dX6_compared_32 (by decide) ?_
            exact hret hP hD hS dX6_compared_33 rfl (by obtain ⟨e1, e2, e3⟩ := zLe (f := 60) hz (fun h9 => by have h91 := h9.1; have h92 := zlv_2.mp h9.2; omega); subst e1; subst e2; subst e3; exact ⟨_, _, _, (by omega), fun _ => ⟨rfl, rfl, rfl⟩, (bI_t rfl).symm, rfl⟩)
  · have c4_9 := bI_0.mp c4_9
    refine lv_iconst (v := nI 0) hx hb dX6_compared_7 (by decide) ?_
    exact hret hP hD hS dX6_compared_8 rfl (by obtain ⟨e1, e2⟩ := zLv_ff hR hR1 (by assumption); subst e1; subst e2; exact ⟨_, _, _, hq9_7, fun h9 => (by cases h9), (bI_f (by decide)).symm, rfl⟩)
set_option maxHeartbeats 4000000 in
set_option maxRecDepth 100000 in
theorem c_X6_both_2 (l : Launch) (D : va_G) (cI cJ : ClassId) (h : Nat) (m0 : Nat) (m1 : Nat) (m2 : Nat) (m4 : Nat) (m9 : Nat) (m10 : Nat) (m11 : Nat) (m13 : Nat) (m16 : Nat) (m17 : Nat) (m18 : Nat) (m19 : Nat) (i3 : Int32) (tn : Nat) (sp : Nat) (pt : Nat) (S : Nat → Int32) (ST : Nat → Int32) (L : Nat) (u : Nat) (T : Nat → Nat) (p : Nat) (c : Nat) (b : Bool) (q : Nat) (tl : zTks) (hL : L ≤ 60) (hu1 : u ≤ 1) (hT : ∀ i, i < L → T i < 256) (htb : ∀ i, i < L → S (296 + i) = nI (T i)) (hS4 : S 4 = nI L) (hp : p ≤ L) (hcp : c ≤ p) (hR : zLS T L (zQ T L u 3) 4 p = (b, q, tl)) : zMi l yX6_both wsX6_both ({ frames := 23, cells := 0, slots := 0, locals := 486 } : Room) D [(cI, .int), (cJ, .array .int)] [.ref h] [(h, .inr (6, [.ref m0, .ref m1, .ref m2, .int i3, .ref m4, .int (nI p), .int (nI 2), .int (nI c), .int (nI u), .ref m9, .ref m10, .ref m11, .int (nI tn), .ref m13, .int (nI sp), .int (nI pt), .ref m16, .ref m17, .ref m18, .ref m19])), (m0, .inl (cI, 380, .inl S)), (m9, .inl (cI, 124, .inl ST))] (fun r w => ∃ (c9 o9 : Nat) (ST9 : Nat → Int32), c9 ≤ q ∧ (b = true → c9 = c + tl.length ∧ ST9 = zap2 u ST c tl ∧ o9 = 2) ∧ r = bI (b = true) ∧ w = [(h, .inr (6, [.ref m0, .ref m1, .ref m2, .int i3, .ref m4, .int (nI q), .int (nI o9), .int (nI c9), .int (nI u), .ref m9, .ref m10, .ref m11, .int (nI tn), .ref m13, .int (nI sp), .int (nI pt), .ref m16, .ref m17, .ref m18, .ref m19])), (m0, .inl (cI, 380, .inl S)), (m9, .inl (cI, 124, .inl ST9))]) := by
  refine zMi.start (cc := cX6_both) (maxL := 1) (rt := .boolean) (by first | decide | decide +kernel) rfl (Nat.le_of_ble_eq_true rfl) ?_
  intro pg ev s mt args below meth cd ls AA QQ ⟨hx, hb, hml, hr, hlocks, hown, hts, hK, hN, hZ, hP, hD, hA, hS, hl⟩ hret
  have hown : s.vm.findClass RX6 = some mt.cls := hown
  have hl : lv_has ls 1 [(0, .ref h)] := hl
  have hin6 : ∀ w ∈ wsX60, w ∈ wsX6_both := fun w h => List.mem_cons_of_mem _ (List.mem_append_right _ (h))
  have hR : zLv T L 1 (zLS T L (zQ T L u 3) 3) p = (b, q, tl) := hR
  obtain ⟨b1, q1, t1, hR1⟩ : ∃ (b0 : Bool) (q0 : Nat) (t0 : zTks), zLS T L (zQ T L u 3) 3 p = (b0, q0, t0) := ⟨_, _, _, rfl⟩
  have hg1 := (zLS_gd (T := T) (zQ_gd (T := T) (L := L) (u := u) 3) 3) p (by omega)
  rw [hR1] at hg1
  obtain ⟨hga1, hgb1, hgc1⟩ : p ≤ q1 ∧ q1 ≤ L ∧ (b1 = true → p < q1 ∧ t1.length ≤ q1 - p ∧ zw1 t1) := hg1
  refine lv_aload_n hx hb dX6_both_0 rfl (lv_at hl 0 rfl) ?_
  refine zci (wr := []) (va_runV (As := []) (rest := []) ⟨hx, hb, hml, hown, hts⟩ (c_X6_compared_2 l D cI cJ h m0 m1 m2 m4 m9 m10 m11 m13 m16 m17 m18 m19 i3 tn sp pt S ST L u T p c b1 q1 t1 (by first | rfl | assumption | omega) (by first | rfl | assumption | omega) (by first | rfl | assumption | omega) (by first | rfl | assumption | omega) (by first | rfl | assumption | omega) (by first | rfl | assumption | omega) (by first | rfl | assumption | omega) hR1 s.heap.size) (cwV 0 hts gX6_both_X6_compared rfl rfl rfl (by decide +kernel) ⟨Nat.le_of_ble_eq_true rfl, Nat.le_of_ble_eq_true rfl⟩) (zpV hK hN hZ hP hD hS hA [0, 1, 2] rfl (by decide) 0 rfl rfl rfl) rfl rfl hl.1 rfl (lv_room (Nat.le_of_ble_eq_true rfl)) dX6_both_1 ⟨Nat.zero_le _, Nat.zero_le _⟩) hP hD hS hA [0, 1, 2] [] rfl rfl (by decide) (by decide) (fun r_3 w_2 H locs h_1 hP hD hS => ?_)
  obtain ⟨c9_4, o9_5, ST9_6, hq9_7, hx9_8, rfl, rfl⟩ := h_1
  have hP : va_P D vwCl [(h, .inr (6, [.ref m0, .ref m1, .ref m2, .int i3, .ref m4, .int (nI q1), .int (nI o9_5), .int (nI c9_4), .int (nI u), .ref m9, .ref m10, .ref m11, .int (nI tn), .ref m13, .int (nI sp), .int (nI pt), .ref m16, .ref m17, .ref m18, .ref m19])), (m0, .inl (cI, 380, .inl S)), (m9, .inl (cI, 124, .inl ST9_6))] H := hP
  have hD : va_D AA [(h, .inr (6, [.ref m0, .ref m1, .ref m2, .int i3, .ref m4, .int (nI q1), .int (nI o9_5), .int (nI c9_4), .int (nI u), .ref m9, .ref m10, .ref m11, .int (nI tn), .ref m13, .int (nI sp), .int (nI pt), .ref m16, .ref m17, .ref m18, .ref m19])), (m0, .inl (cI, 380, .inl S)), (m9, .inl (cI, 124, .inl ST9_6))] := hD
  refine lv_if_ne (tgt := 9) hx hb dX6_both_4 (by decide) (fun c4_9 => ?_) (fun c4_9 => ?_)
  · have c4_9 := bI_n0.mp c4_9
    obtain ⟨hgd1, hge1, hgf1⟩ := hgc1 c4_9
    obtain ⟨he1, hE1, ho1⟩ := hx9_8 c4_9
    subst he1; subst hE1; subst ho1
    have hz := zLv_tt hR hR1 c4_9
    have L_9 : ∀ (fu : Nat) (f : Nat) (pv : Nat) (ta : zTks) (hn : f < fu) (hz : zct ta (zLp T L 1 (zLS T L (zQ T L u 3) 3) f pv) = (b, q, tl)) (hf : L - pv < f) (hpv : pv ≤ L) (hca : c + ta.length ≤ pv), ∀ (ls : Array Slot), lv_has ls 1 [(0, .ref h)] → ∀ (H : Heap) (locs : List Loc), va_P D vwCl [(h, .inr (6, [.ref m0, .ref m1, .ref m2, .int i3, .ref m4, .int (nI pv), .int (nI 2), .int (nI ((c + ta.length))), .int (nI u), .ref m9, .ref m10, .ref m11, .int (nI tn), .ref m13, .int (nI sp), .int (nI pt), .ref m16, .ref m17, .ref m18, .ref m19])), (m0, .inl (cI, 380, .inl S)), (m9, .inl (cI, 124, .inl (zap2 u ST c ta)))] H → va_D AA [(h, .inr (6, [.ref m0, .ref m1, .ref m2, .int i3, .ref m4, .int (nI pv), .int (nI 2), .int (nI ((c + ta.length))), .int (nI u), .ref m9, .ref m10, .ref m11, .int (nI tn), .ref m13, .int (nI sp), .int (nI pt), .ref m16, .ref m17, .ref m18, .ref m19])), (m0, .inl (cI, 380, .inl S)), (m9, .inl (cI, 124, .inl (zap2 u ST c ta)))] → va_S AA s.heap H locs → W pg l ev ({ frames := 23, cells := 0, slots := 0, locals := 486 } : Room) s mt args below meth cd H locs 0 0 QQ (F0 mt 9 ls []) := by
      intro fu
      induction fu with
      | zero =>
        intro  f pv ta  hn
        exact absurd hn (by omega)
      | succ fu ih_9 =>
        intro  f pv ta  hn hz hf hpv hca ls hl H locs hP hD hS
        obtain ⟨f1, rfl⟩ : ∃ f1, f = f1 + 1 := ⟨f - 1, by omega⟩
        refine lv_aload_n hx hb dX6_both_9 rfl (lv_at hl 0 rfl) ?_
        by_cases hpL : pv < L
        · refine zcsE (va_runV (As := []) (rest := []) ⟨hx, hb, hml, hown, hts⟩ (c_X6_look l D cI cJ h m0 m1 m2 m4 m9 m10 m11 m13 m16 m17 m18 m19 i3 tn sp pt S ST L u T pv ((c + ta.length)) 2 (by first | rfl | assumption | omega) (by first | rfl | assumption | omega) (by first | rfl | assumption | omega) (by first | rfl | assumption | omega) (by first | rfl | assumption | omega) (by omega) H.size) (cwV 0 hts gX6_both_X6_look rfl rfl rfl (by decide +kernel) ⟨Nat.le_of_ble_eq_true rfl, Nat.le_of_ble_eq_true rfl⟩) (zpV hK hN hZ hP hD hS hA [0, 1] rfl (by decide) 0 rfl rfl rfl) rfl rfl hl.1 rfl (lv_room (Nat.le_of_ble_eq_true rfl)) dX6_both_10 ⟨Nat.zero_le _, Nat.zero_le _⟩) ?_
          refine zrw (if_pos hpL) ?_
          refine lv_bipush (v := nI 38) hx hb dX6_both_13 (by decide) ?_
          refine lv_icmp_ne (tgt := 47) hx hb dX6_both_15 (by decide) (fun c15_10 => ?_) (fun c15_10 => ?_)
          · have c15_10 : ¬ ((T pv) = 38) := fun h9 => c15_10 ((nI_eq (a := T pv) (b := 38) (by have h91 := hT pv (by omega); omega) (by have h91 := hT pv (by omega); omega)).mpr h9)
            refine lv_iconst (v := nI 1) hx hb dX6_both_47 (by decide) ?_
            exact hret hP hD hS dX6_both_48 rfl (by obtain ⟨e1, e2, e3⟩ := zLe (f := f1) hz (fun h9 => by have h91 := h9.1; have h92 := zlv_1.mp h9.2; omega); subst e1; subst e2; subst e3; exact ⟨_, _, _, (by omega), fun _ => ⟨rfl, rfl, rfl⟩, (bI_t rfl).symm, rfl⟩)
          · have c15_10 : (T pv) = 38 := (nI_eq (a := T pv) (b := 38) (by have h91 := hT pv (by omega); omega) (by have h91 := hT pv (by omega); omega)).mp c15_10
            refine lv_aload_n hx hb dX6_both_18 rfl (lv_at hl 0 rfl) ?_
            refine lv_dup hx hb dX6_both_19 rfl ?_
            refine va_get (ci := 6) (v := .int (nI pv)) (C := RX6) (T := TX6) (N := 20) hx hb hts hin6 hown hK hP 0 rfl rfl 5 (by decide) (hts (.fieldLink RX6 61 "UpAllRoundModel" "at" "I") (List.mem_of_getElem? (i := 1) rfl)) (fun _ h9 => h9) rfl dX6_both_20 ?_
            refine lv_iconst (v := nI 1) hx hb dX6_both_23 (by decide) ?_
            refine lv_iadd hx hb dX6_both_24 ?_
            refine zrw (nI_add _ _) ?_
            refine va_put (ci := 6) (v := .int (nI (pv + 1))) (ty := .int) (C := RX6) (T := TX6) (N := 20) hx hb hts hin6 tyX6 tyX6_ok nmX6 hown hK hP hD hS 0 rfl rfl 5 (by decide) (hts (.fieldLink RX6 61 "UpAllRoundModel" "at" "I") (List.mem_of_getElem? (i := 1) rfl)) (fun _ h9 => h9) rfl (by decide +kernel) rfl rfl (Nat.le_of_ble_eq_true rfl) dX6_both_25 (fun H locs hP hD hS => ?_)
            have hP : va_P D vwCl [(h, .inr (6, [.ref m0, .ref m1, .ref m2, .int i3, .ref m4, .int (nI (pv + 1)), .int (nI 2), .int (nI ((c + ta.length))), .int (nI u), .ref m9, .ref m10, .ref m11, .int (nI tn), .ref m13, .int (nI sp), .int (nI pt), .ref m16, .ref m17, .ref m18, .ref m19])), (m0, .inl (cI, 380, .inl S)), (m9, .inl (cI, 124, .inl (zap2 u ST c ta)))] H := hP
            have hD : va_D AA [(h, .inr (6, [.ref m0, .ref m1, .ref m2, .int i3, .ref m4, .int (nI (pv + 1)), .int (nI 2), .int (nI ((c + ta.length))), .int (nI u), .ref m9, .ref m10, .ref m11, .int (nI tn), .ref m13, .int (nI sp), .int (nI pt), .ref m16, .ref m17, .ref m18, .ref m19])), (m0, .inl (cI, 380, .inl S)), (m9, .inl (cI, 124, .inl (zap2 u ST c ta)))] := hD
            refine lv_aload_n hx hb dX6_both_28 rfl (lv_at hl 0 rfl) ?_
            obtain ⟨b2, q2, t2, hR2⟩ : ∃ (b0 : Bool) (q0 : Nat) (t0 : zTks), zLS T L (zQ T L u 3) 3 (pv + 1) = (b0, q0, t0) := ⟨_, _, _, rfl⟩
            have hg2 := (zLS_gd (T := T) (zQ_gd (T := T) (L := L) (u := u) 3) 3) (pv + 1) (by omega)
            rw [hR2] at hg2
            obtain ⟨hga2, hgb2, hgc2⟩ : (pv + 1) ≤ q2 ∧ q2 ≤ L ∧ (b2 = true → (pv + 1) < q2 ∧ t2.length ≤ q2 - (pv + 1) ∧ zw1 t2) := hg2
            refine zci (wr := []) (va_runV (As := []) (rest := []) ⟨hx, hb, hml, hown, hts⟩ (c_X6_compared_2 l D cI cJ h m0 m1 m2 m4 m9 m10 m11 m13 m16 m17 m18 m19 i3 tn sp pt S (zap2 u ST c ta) L u T (pv + 1) ((c + ta.length)) b2 q2 t2 (by first | rfl | assumption | omega) (by first | rfl | assumption | omega) (by first | rfl | assumption | omega) (by first | rfl | assumption | omega) (by first | rfl | assumption | omega) (by omega) (by omega) hR2 H.size) (cwV 0 hts gX6_both_X6_compared rfl rfl rfl (by decide +kernel) ⟨Nat.le_of_ble_eq_true rfl, Nat.le_of_ble_eq_true rfl⟩) (zpV hK hN hZ hP hD hS hA [0, 1, 2] rfl (by decide) 0 rfl rfl rfl) rfl rfl hl.1 rfl (lv_room (Nat.le_of_ble_eq_true rfl)) dX6_both_29 ⟨Nat.zero_le _, Nat.zero_le _⟩) hP hD hS hA [0, 1, 2] [] rfl rfl (by decide) (by decide) (fun r_13 w_12 H locs h_11 hP hD hS => ?_)
            obtain ⟨c9_14, o9_15, ST9_16, hq9_17, hx9_18, rfl, rfl⟩ := h_11
            have hP : va_P D vwCl [(h, .inr (6, [.ref m0, .ref m1, .ref m2, .int i3, .ref m4, .int (nI q2), .int (nI o9_15), .int (nI c9_14), .int (nI u), .ref m9, .ref m10, .ref m11, .int (nI tn), .ref m13, .int (nI sp), .int (nI pt), .ref m16, .ref m17, .ref m18, .ref m19])), (m0, .inl (cI, 380, .inl S)), (m9, .inl (cI, 124, .inl ST9_16))] H := hP
            have hD : va_D AA [(h, .inr (6, [.ref m0, .ref m1, .ref m2, .int i3, .ref m4, .int (nI q2), .int (nI o9_15), .int (nI c9_14), .int (nI u), .ref m9, .ref m10, .ref m11, .int (nI tn), .ref m13, .int (nI sp), .int (nI pt), .ref m16, .ref m17, .ref m18, .ref m19])), (m0, .inl (cI, 380, .inl S)), (m9, .inl (cI, 124, .inl ST9_16))] := hD
            refine lv_if_ne (tgt := 37) hx hb dX6_both_32 (by decide) (fun c32_19 => ?_) (fun c32_19 => ?_)
            · have c32_19 := bI_n0.mp c32_19
              obtain ⟨hgd2, hge2, hgf2⟩ := hgc2 c32_19
              obtain ⟨he2, hE2, ho2⟩ := hx9_18 c32_19
              subst he2; subst hE2; subst ho2
              refine lv_aload_n hx hb dX6_both_37 rfl (lv_at hl 0 rfl) ?_
              refine lv_iconst (v := nI 3) hx hb dX6_both_38 (by decide) ?_
              refine lv_bipush (v := nI 38) hx hb dX6_both_39 (by decide) ?_
              refine zrw (congrArg nI (show 38 = T pv by omega)) ?_
              refine zcv (wr := [(m0, .inl (cI, 380, .inl S))]) (va_runV (As := [.int (nI 3), .int (nI (T pv))]) (rest := []) ⟨hx, hb, hml, hown, hts⟩ (c_X6_step1 l D cI cJ h m0 m1 m2 m4 m9 m10 m11 m13 m16 m17 m18 m19 i3 tn sp pt u q2 2 ((c + ta.length + t2.length)) (zap2 u (zap2 u ST c ta) (c + ta.length) t2) 3 (nI (T pv)) (by omega) H.size) (cwV 2 hts gX6_both_X6_step1 rfl rfl rfl (by decide +kernel) ⟨Nat.le_of_ble_eq_true rfl, Nat.le_of_ble_eq_true rfl⟩) (zpV hK hN hZ hP hD hS hA [0, 2] rfl (by decide) 0 rfl rfl rfl) rfl rfl hl.1 rfl (lv_room (Nat.le_of_ble_eq_true rfl)) dX6_both_41 ⟨Nat.zero_le _, Nat.zero_le _⟩) hP hD hS hA [0, 2] [1] rfl rfl (by decide) (by decide) (fun w_21 H locs h_20 hP hD hS => ?_)
              obtain rfl := h_20
              have hP : va_P D vwCl [(m0, .inl (cI, 380, .inl S)), (h, .inr (6, [.ref m0, .ref m1, .ref m2, .int i3, .ref m4, .int (nI q2), .int (nI 2), .int (nI ((((c + ta.length + t2.length)) + 1))), .int (nI u), .ref m9, .ref m10, .ref m11, .int (nI tn), .ref m13, .int (nI sp), .int (nI pt), .ref m16, .ref m17, .ref m18, .ref m19])), (m9, .inl (cI, 124, .inl ((upd (upd (zap2 u (zap2 u ST c ta) (c + ta.length) t2) (2 * ((c + ta.length + t2.length))) (nI 3)) (2 * ((c + ta.length + t2.length)) + 1) (nI (T pv))))))] H := hP
              have hD : va_D AA [(m0, .inl (cI, 380, .inl S)), (h, .inr (6, [.ref m0, .ref m1, .ref m2, .int i3, .ref m4, .int (nI q2), .int (nI 2), .int (nI ((((c + ta.length + t2.length)) + 1))), .int (nI u), .ref m9, .ref m10, .ref m11, .int (nI tn), .ref m13, .int (nI sp), .int (nI pt), .ref m16, .ref m17, .ref m18, .ref m19])), (m9, .inl (cI, 124, .inl ((upd (upd (zap2 u (zap2 u ST c ta) (c + ta.length) t2) (2 * ((c + ta.length + t2.length))) (nI 3)) (2 * ((c + ta.length + t2.length)) + 1) (nI (T pv))))))] := hD
              refine lv_goto (tgt := 9) hx hb dX6_both_44 (by decide) ?_
              rw [zap23, zlen1 (t := (3, T pv))] at hP hD
              exact ih_9   f1 q2 ((ta ++ (t2 ++ [(3, T pv)]))) (by omega) (zLt (by decide) hz ⟨by omega, zlv_1.mpr (by omega)⟩ hR2 (by assumption)) (by omega) (by omega) (by rw [← zlen1]; omega) ls (lv_sub hl [0] rfl) H locs (hP.sub [1, 0, 2] rfl) (hD.sub [1, 0, 2] (by decide) rfl) hS
            · have c32_19 := bI_0.mp c32_19
              refine lv_iconst (v := nI 0) hx hb dX6_both_35 (by decide) ?_
              exact hret hP hD hS dX6_both_36 rfl (by obtain ⟨e1, e2⟩ := zLf hz ⟨by omega, zlv_1.mpr (by omega)⟩ hR2 (by assumption); subst e1; subst e2; exact ⟨_, _, _, hq9_17, fun h9 => (by cases h9), (bI_f (by decide)).symm, rfl⟩)
        · refine zcsE (va_runV (As := []) (rest := []) ⟨hx, hb, hml, hown, hts⟩ (c_X6_look l D cI cJ h m0 m1 m2 m4 m9 m10 m11 m13 m16 m17 m18 m19 i3 tn sp pt S ST L u T pv ((c + ta.length)) 2 (by first | rfl | assumption | omega) (by first | rfl | assumption | omega) (by first | rfl | assumption | omega) (by first | rfl | assumption | omega) (by first | rfl | assumption | omega) (by omega) H.size) (cwV 0 hts gX6_both_X6_look rfl rfl rfl (by decide +kernel) ⟨Nat.le_of_ble_eq_true rfl, Nat.le_of_ble_eq_true rfl⟩) (zpV hK hN hZ hP hD hS hA [0, 1] rfl (by decide) 0 rfl rfl rfl) rfl rfl hl.1 rfl (lv_room (Nat.le_of_ble_eq_true rfl)) dX6_both_10 ⟨Nat.zero_le _, Nat.zero_le _⟩) ?_
          refine zrw (if_neg hpL) ?_
          refine lv_bipush (v := nI 38) hx hb dX6_both_13 (by decide) ?_
          refine lv_icmp_ne (tgt := 47) hx hb dX6_both_15 (by decide) (fun c15_22 => ?_) (fun c15_22 => ?_)
          · refine lv_iconst (v := nI 1) hx hb dX6_both_47 (by decide) ?_
            exact hret hP hD hS dX6_both_48 rfl (by obtain ⟨e1, e2, e3⟩ := zLe (f := f1) hz (fun h9 => by have h91 := h9.1; have h92 := zlv_1.mp h9.2; omega); subst e1; subst e2; subst e3; exact ⟨_, _, _, (by omega), fun _ => ⟨rfl, rfl, rfl⟩, (bI_t rfl).symm, rfl⟩)
          · exact absurd c15_22 (by decide)
    exact L_9 62  61 q1 t1 (by omega) hz (by omega) (by omega) (by omega) ls (lv_sub hl [0] rfl) _ _ hP hD hS
  · have c4_9 := bI_0.mp c4_9
    refine lv_iconst (v := nI 0) hx hb dX6_both_7 (by decide) ?_
    exact hret hP hD hS dX6_both_8 rfl (by obtain ⟨e1, e2⟩ := zLv_ff hR hR1 (by assumption); subst e1; subst e2; exact ⟨_, _, _, hq9_7, fun h9 => (by cases h9), (bI_f (by decide)).symm, rfl⟩)
set_option maxHeartbeats 4000000 in
set_option maxRecDepth 100000 in
theorem c_X6_whole_2 (l : Launch) (D : va_G) (cI cJ : ClassId) (h : Nat) (m0 : Nat) (m1 : Nat) (m2 : Nat) (m4 : Nat) (m9 : Nat) (m10 : Nat) (m11 : Nat) (m13 : Nat) (m16 : Nat) (m17 : Nat) (m18 : Nat) (m19 : Nat) (i3 : Int32) (tn : Nat) (sp : Nat) (pt : Nat) (S : Nat → Int32) (ST : Nat → Int32) (L : Nat) (u : Nat) (T : Nat → Nat) (p : Nat) (c : Nat) (b : Bool) (q : Nat) (tl : zTks) (hL : L ≤ 60) (hu1 : u ≤ 1) (hT : ∀ i, i < L → T i < 256) (htb : ∀ i, i < L → S (296 + i) = nI (T i)) (hS4 : S 4 = nI L) (hp : p ≤ L) (hcp : c ≤ p) (hR : zLS T L (zQ T L u 3) 5 p = (b, q, tl)) : zMi l yX6_whole wsX6_whole ({ frames := 24, cells := 0, slots := 0, locals := 506 } : Room) D [(cI, .int), (cJ, .array .int)] [.ref h] [(h, .inr (6, [.ref m0, .ref m1, .ref m2, .int i3, .ref m4, .int (nI p), .int (nI 2), .int (nI c), .int (nI u), .ref m9, .ref m10, .ref m11, .int (nI tn), .ref m13, .int (nI sp), .int (nI pt), .ref m16, .ref m17, .ref m18, .ref m19])), (m0, .inl (cI, 380, .inl S)), (m9, .inl (cI, 124, .inl ST))] (fun r w => ∃ (c9 o9 : Nat) (ST9 : Nat → Int32), c9 ≤ q ∧ (b = true → c9 = c + tl.length ∧ ST9 = zap2 u ST c tl ∧ o9 = 2) ∧ r = bI (b = true) ∧ w = [(h, .inr (6, [.ref m0, .ref m1, .ref m2, .int i3, .ref m4, .int (nI q), .int (nI o9), .int (nI c9), .int (nI u), .ref m9, .ref m10, .ref m11, .int (nI tn), .ref m13, .int (nI sp), .int (nI pt), .ref m16, .ref m17, .ref m18, .ref m19])), (m0, .inl (cI, 380, .inl S)), (m9, .inl (cI, 124, .inl ST9))]) := by
  refine zMi.start (cc := cX6_whole) (maxL := 1) (rt := .boolean) (by first | decide | decide +kernel) rfl (Nat.le_of_ble_eq_true rfl) ?_
  intro pg ev s mt args below meth cd ls AA QQ ⟨hx, hb, hml, hr, hlocks, hown, hts, hK, hN, hZ, hP, hD, hA, hS, hl⟩ hret
  have hown : s.vm.findClass RX6 = some mt.cls := hown
  have hl : lv_has ls 1 [(0, .ref h)] := hl
  have hin6 : ∀ w ∈ wsX60, w ∈ wsX6_whole := fun w h => List.mem_cons_of_mem _ (List.mem_append_right _ (h))
  have hR : zLv T L 0 (zLS T L (zQ T L u 3) 4) p = (b, q, tl) := hR
  obtain ⟨b1, q1, t1, hR1⟩ : ∃ (b0 : Bool) (q0 : Nat) (t0 : zTks), zLS T L (zQ T L u 3) 4 p = (b0, q0, t0) := ⟨_, _, _, rfl⟩
  have hg1 := (zLS_gd (T := T) (zQ_gd (T := T) (L := L) (u := u) 3) 4) p (by omega)
  rw [hR1] at hg1
  obtain ⟨hga1, hgb1, hgc1⟩ : p ≤ q1 ∧ q1 ≤ L ∧ (b1 = true → p < q1 ∧ t1.length ≤ q1 - p ∧ zw1 t1) := hg1
  refine lv_aload_n hx hb dX6_whole_0 rfl (lv_at hl 0 rfl) ?_
  refine zci (wr := []) (va_runV (As := []) (rest := []) ⟨hx, hb, hml, hown, hts⟩ (c_X6_both_2 l D cI cJ h m0 m1 m2 m4 m9 m10 m11 m13 m16 m17 m18 m19 i3 tn sp pt S ST L u T p c b1 q1 t1 (by first | rfl | assumption | omega) (by first | rfl | assumption | omega) (by first | rfl | assumption | omega) (by first | rfl | assumption | omega) (by first | rfl | assumption | omega) (by first | rfl | assumption | omega) (by first | rfl | assumption | omega) hR1 s.heap.size) (cwV 0 hts gX6_whole_X6_both rfl rfl rfl (by decide +kernel) ⟨Nat.le_of_ble_eq_true rfl, Nat.le_of_ble_eq_true rfl⟩) (zpV hK hN hZ hP hD hS hA [0, 1, 2] rfl (by decide) 0 rfl rfl rfl) rfl rfl hl.1 rfl (lv_room (Nat.le_of_ble_eq_true rfl)) dX6_whole_1 ⟨Nat.zero_le _, Nat.zero_le _⟩) hP hD hS hA [0, 1, 2] [] rfl rfl (by decide) (by decide) (fun r_3 w_2 H locs h_1 hP hD hS => ?_)
  obtain ⟨c9_4, o9_5, ST9_6, hq9_7, hx9_8, rfl, rfl⟩ := h_1
  have hP : va_P D vwCl [(h, .inr (6, [.ref m0, .ref m1, .ref m2, .int i3, .ref m4, .int (nI q1), .int (nI o9_5), .int (nI c9_4), .int (nI u), .ref m9, .ref m10, .ref m11, .int (nI tn), .ref m13, .int (nI sp), .int (nI pt), .ref m16, .ref m17, .ref m18, .ref m19])), (m0, .inl (cI, 380, .inl S)), (m9, .inl (cI, 124, .inl ST9_6))] H := hP
  have hD : va_D AA [(h, .inr (6, [.ref m0, .ref m1, .ref m2, .int i3, .ref m4, .int (nI q1), .int (nI o9_5), .int (nI c9_4), .int (nI u), .ref m9, .ref m10, .ref m11, .int (nI tn), .ref m13, .int (nI sp), .int (nI pt), .ref m16, .ref m17, .ref m18, .ref m19])), (m0, .inl (cI, 380, .inl S)), (m9, .inl (cI, 124, .inl ST9_6))] := hD
  refine lv_if_ne (tgt := 9) hx hb dX6_whole_4 (by decide) (fun c4_9 => ?_) (fun c4_9 => ?_)
  · have c4_9 := bI_n0.mp c4_9
    obtain ⟨hgd1, hge1, hgf1⟩ := hgc1 c4_9
    obtain ⟨he1, hE1, ho1⟩ := hx9_8 c4_9
    subst he1; subst hE1; subst ho1
    have hz := zLv_tt hR hR1 c4_9
    have L_9 : ∀ (fu : Nat) (f : Nat) (pv : Nat) (ta : zTks) (hn : f < fu) (hz : zct ta (zLp T L 0 (zLS T L (zQ T L u 3) 4) f pv) = (b, q, tl)) (hf : L - pv < f) (hpv : pv ≤ L) (hca : c + ta.length ≤ pv), ∀ (ls : Array Slot), lv_has ls 1 [(0, .ref h)] → ∀ (H : Heap) (locs : List Loc), va_P D vwCl [(h, .inr (6, [.ref m0, .ref m1, .ref m2, .int i3, .ref m4, .int (nI pv), .int (nI 2), .int (nI ((c + ta.length))), .int (nI u), .ref m9, .ref m10, .ref m11, .int (nI tn), .ref m13, .int (nI sp), .int (nI pt), .ref m16, .ref m17, .ref m18, .ref m19])), (m0, .inl (cI, 380, .inl S)), (m9, .inl (cI, 124, .inl (zap2 u ST c ta)))] H → va_D AA [(h, .inr (6, [.ref m0, .ref m1, .ref m2, .int i3, .ref m4, .int (nI pv), .int (nI 2), .int (nI ((c + ta.length))), .int (nI u), .ref m9, .ref m10, .ref m11, .int (nI tn), .ref m13, .int (nI sp), .int (nI pt), .ref m16, .ref m17, .ref m18, .ref m19])), (m0, .inl (cI, 380, .inl S)), (m9, .inl (cI, 124, .inl (zap2 u ST c ta)))] → va_S AA s.heap H locs → W pg l ev ({ frames := 24, cells := 0, slots := 0, locals := 506 } : Room) s mt args below meth cd H locs 0 0 QQ (F0 mt 9 ls []) := by
      intro fu
      induction fu with
      | zero =>
        intro  f pv ta  hn
        exact absurd hn (by omega)
      | succ fu ih_9 =>
        intro  f pv ta  hn hz hf hpv hca ls hl H locs hP hD hS
        obtain ⟨f1, rfl⟩ : ∃ f1, f = f1 + 1 := ⟨f - 1, by omega⟩
        refine lv_aload_n hx hb dX6_whole_9 rfl (lv_at hl 0 rfl) ?_
        by_cases hpL : pv < L
        · refine zcsE (va_runV (As := []) (rest := []) ⟨hx, hb, hml, hown, hts⟩ (c_X6_look l D cI cJ h m0 m1 m2 m4 m9 m10 m11 m13 m16 m17 m18 m19 i3 tn sp pt S ST L u T pv ((c + ta.length)) 2 (by first | rfl | assumption | omega) (by first | rfl | assumption | omega) (by first | rfl | assumption | omega) (by first | rfl | assumption | omega) (by first | rfl | assumption | omega) (by omega) H.size) (cwV 0 hts gX6_whole_X6_look rfl rfl rfl (by decide +kernel) ⟨Nat.le_of_ble_eq_true rfl, Nat.le_of_ble_eq_true rfl⟩) (zpV hK hN hZ hP hD hS hA [0, 1] rfl (by decide) 0 rfl rfl rfl) rfl rfl hl.1 rfl (lv_room (Nat.le_of_ble_eq_true rfl)) dX6_whole_10 ⟨Nat.zero_le _, Nat.zero_le _⟩) ?_
          refine zrw (if_pos hpL) ?_
          refine lv_bipush (v := nI 124) hx hb dX6_whole_13 (by decide) ?_
          refine lv_icmp_ne (tgt := 47) hx hb dX6_whole_15 (by decide) (fun c15_10 => ?_) (fun c15_10 => ?_)
          · have c15_10 : ¬ ((T pv) = 124) := fun h9 => c15_10 ((nI_eq (a := T pv) (b := 124) (by have h91 := hT pv (by omega); omega) (by have h91 := hT pv (by omega); omega)).mpr h9)
            refine lv_iconst (v := nI 1) hx hb dX6_whole_47 (by decide) ?_
            exact hret hP hD hS dX6_whole_48 rfl (by obtain ⟨e1, e2, e3⟩ := zLe (f := f1) hz (fun h9 => by have h91 := h9.1; have h92 := zlv_0.mp h9.2; omega); subst e1; subst e2; subst e3; exact ⟨_, _, _, (by omega), fun _ => ⟨rfl, rfl, rfl⟩, (bI_t rfl).symm, rfl⟩)
          · have c15_10 : (T pv) = 124 := (nI_eq (a := T pv) (b := 124) (by have h91 := hT pv (by omega); omega) (by have h91 := hT pv (by omega); omega)).mp c15_10
            refine lv_aload_n hx hb dX6_whole_18 rfl (lv_at hl 0 rfl) ?_
            refine lv_dup hx hb dX6_whole_19 rfl ?_
            refine va_get (ci := 6) (v := .int (nI pv)) (C := RX6) (T := TX6) (N := 20) hx hb hts hin6 hown hK hP 0 rfl rfl 5 (by decide) (hts (.fieldLink RX6 61 "UpAllRoundModel" "at" "I") (List.mem_of_getElem? (i := 1) rfl)) (fun _ h9 => h9) rfl dX6_whole_20 ?_
            refine lv_iconst (v := nI 1) hx hb dX6_whole_23 (by decide) ?_
            refine lv_iadd hx hb dX6_whole_24 ?_
            refine zrw (nI_add _ _) ?_
            refine va_put (ci := 6) (v := .int (nI (pv + 1))) (ty := .int) (C := RX6) (T := TX6) (N := 20) hx hb hts hin6 tyX6 tyX6_ok nmX6 hown hK hP hD hS 0 rfl rfl 5 (by decide) (hts (.fieldLink RX6 61 "UpAllRoundModel" "at" "I") (List.mem_of_getElem? (i := 1) rfl)) (fun _ h9 => h9) rfl (by decide +kernel) rfl rfl (Nat.le_of_ble_eq_true rfl) dX6_whole_25 (fun H locs hP hD hS => ?_)
            have hP : va_P D vwCl [(h, .inr (6, [.ref m0, .ref m1, .ref m2, .int i3, .ref m4, .int (nI (pv + 1)), .int (nI 2), .int (nI ((c + ta.length))), .int (nI u), .ref m9, .ref m10, .ref m11, .int (nI tn), .ref m13, .int (nI sp), .int (nI pt), .ref m16, .ref m17, .ref m18, .ref m19])), (m0, .inl (cI, 380, .inl S)), (m9, .inl (cI, 124, .inl (zap2 u ST c ta)))] H := hP
            have hD : va_D AA [(h, .inr (6, [.ref m0, .ref m1, .ref m2, .int i3, .ref m4, .int (nI (pv + 1)), .int (nI 2), .int (nI ((c + ta.length))), .int (nI u), .ref m9, .ref m10, .ref m11, .int (nI tn), .ref m13, .int (nI sp), .int (nI pt), .ref m16, .ref m17, .ref m18, .ref m19])), (m0, .inl (cI, 380, .inl S)), (m9, .inl (cI, 124, .inl (zap2 u ST c ta)))] := hD
            refine lv_aload_n hx hb dX6_whole_28 rfl (lv_at hl 0 rfl) ?_
            obtain ⟨b2, q2, t2, hR2⟩ : ∃ (b0 : Bool) (q0 : Nat) (t0 : zTks), zLS T L (zQ T L u 3) 4 (pv + 1) = (b0, q0, t0) := ⟨_, _, _, rfl⟩
            have hg2 := (zLS_gd (T := T) (zQ_gd (T := T) (L := L) (u := u) 3) 4) (pv + 1) (by omega)
            rw [hR2] at hg2
            obtain ⟨hga2, hgb2, hgc2⟩ : (pv + 1) ≤ q2 ∧ q2 ≤ L ∧ (b2 = true → (pv + 1) < q2 ∧ t2.length ≤ q2 - (pv + 1) ∧ zw1 t2) := hg2
            refine zci (wr := []) (va_runV (As := []) (rest := []) ⟨hx, hb, hml, hown, hts⟩ (c_X6_both_2 l D cI cJ h m0 m1 m2 m4 m9 m10 m11 m13 m16 m17 m18 m19 i3 tn sp pt S (zap2 u ST c ta) L u T (pv + 1) ((c + ta.length)) b2 q2 t2 (by first | rfl | assumption | omega) (by first | rfl | assumption | omega) (by first | rfl | assumption | omega) (by first | rfl | assumption | omega) (by first | rfl | assumption | omega) (by omega) (by omega) hR2 H.size) (cwV 0 hts gX6_whole_X6_both rfl rfl rfl (by decide +kernel) ⟨Nat.le_of_ble_eq_true rfl, Nat.le_of_ble_eq_true rfl⟩) (zpV hK hN hZ hP hD hS hA [0, 1, 2] rfl (by decide) 0 rfl rfl rfl) rfl rfl hl.1 rfl (lv_room (Nat.le_of_ble_eq_true rfl)) dX6_whole_29 ⟨Nat.zero_le _, Nat.zero_le _⟩) hP hD hS hA [0, 1, 2] [] rfl rfl (by decide) (by decide) (fun r_13 w_12 H locs h_11 hP hD hS => ?_)
            obtain ⟨c9_14, o9_15, ST9_16, hq9_17, hx9_18, rfl, rfl⟩ := h_11
            have hP : va_P D vwCl [(h, .inr (6, [.ref m0, .ref m1, .ref m2, .int i3, .ref m4, .int (nI q2), .int (nI o9_15), .int (nI c9_14), .int (nI u), .ref m9, .ref m10, .ref m11, .int (nI tn), .ref m13, .int (nI sp), .int (nI pt), .ref m16, .ref m17, .ref m18, .ref m19])), (m0, .inl (cI, 380, .inl S)), (m9, .inl (cI, 124, .inl ST9_16))] H := hP
            have hD : va_D AA [(h, .inr (6, [.ref m0, .ref m1, .ref m2, .int i3, .ref m4, .int (nI q2), .int (nI o9_15), .int (nI c9_14), .int (nI u), .ref m9, .ref m10, .ref m11, .int (nI tn), .ref m13, .int (nI sp), .int (nI pt), .ref m16, .ref m17, .ref m18, .ref m19])), (m0, .inl (cI, 380, .inl S)), (m9, .inl (cI, 124, .inl ST9_16))] := hD
            refine lv_if_ne (tgt := 37) hx hb dX6_whole_32 (by decide) (fun c32_19 => ?_) (fun c32_19 => ?_)
            · have c32_19 := bI_n0.mp c32_19
              obtain ⟨hgd2, hge2, hgf2⟩ := hgc2 c32_19
              obtain ⟨he2, hE2, ho2⟩ := hx9_18 c32_19
              subst he2; subst hE2; subst ho2
              refine lv_aload_n hx hb dX6_whole_37 rfl (lv_at hl 0 rfl) ?_
              refine lv_iconst (v := nI 3) hx hb dX6_whole_38 (by decide) ?_
              refine lv_bipush (v := nI 124) hx hb dX6_whole_39 (by decide) ?_
              refine zrw (congrArg nI (show 124 = T pv by omega)) ?_
              refine zcv (wr := [(m0, .inl (cI, 380, .inl S))]) (va_runV (As := [.int (nI 3), .int (nI (T pv))]) (rest := []) ⟨hx, hb, hml, hown, hts⟩ (c_X6_step1 l D cI cJ h m0 m1 m2 m4 m9 m10 m11 m13 m16 m17 m18 m19 i3 tn sp pt u q2 2 ((c + ta.length + t2.length)) (zap2 u (zap2 u ST c ta) (c + ta.length) t2) 3 (nI (T pv)) (by omega) H.size) (cwV 2 hts gX6_whole_X6_step1 rfl rfl rfl (by decide +kernel) ⟨Nat.le_of_ble_eq_true rfl, Nat.le_of_ble_eq_true rfl⟩) (zpV hK hN hZ hP hD hS hA [0, 2] rfl (by decide) 0 rfl rfl rfl) rfl rfl hl.1 rfl (lv_room (Nat.le_of_ble_eq_true rfl)) dX6_whole_41 ⟨Nat.zero_le _, Nat.zero_le _⟩) hP hD hS hA [0, 2] [1] rfl rfl (by decide) (by decide) (fun w_21 H locs h_20 hP hD hS => ?_)
              obtain rfl := h_20
              have hP : va_P D vwCl [(m0, .inl (cI, 380, .inl S)), (h, .inr (6, [.ref m0, .ref m1, .ref m2, .int i3, .ref m4, .int (nI q2), .int (nI 2), .int (nI ((((c + ta.length + t2.length)) + 1))), .int (nI u), .ref m9, .ref m10, .ref m11, .int (nI tn), .ref m13, .int (nI sp), .int (nI pt), .ref m16, .ref m17, .ref m18, .ref m19])), (m9, .inl (cI, 124, .inl ((upd (upd (zap2 u (zap2 u ST c ta) (c + ta.length) t2) (2 * ((c + ta.length + t2.length))) (nI 3)) (2 * ((c + ta.length + t2.length)) + 1) (nI (T pv))))))] H := hP
              have hD : va_D AA [(m0, .inl (cI, 380, .inl S)), (h, .inr (6, [.ref m0, .ref m1, .ref m2, .int i3, .ref m4, .int (nI q2), .int (nI 2), .int (nI ((((c + ta.length + t2.length)) + 1))), .int (nI u), .ref m9, .ref m10, .ref m11, .int (nI tn), .ref m13, .int (nI sp), .int (nI pt), .ref m16, .ref m17, .ref m18, .ref m19])), (m9, .inl (cI, 124, .inl ((upd (upd (zap2 u (zap2 u ST c ta) (c + ta.length) t2) (2 * ((c + ta.length + t2.length))) (nI 3)) (2 * ((c + ta.length + t2.length)) + 1) (nI (T pv))))))] := hD
              refine lv_goto (tgt := 9) hx hb dX6_whole_44 (by decide) ?_
              rw [zap23, zlen1 (t := (3, T pv))] at hP hD
              exact ih_9   f1 q2 ((ta ++ (t2 ++ [(3, T pv)]))) (by omega) (zLt (by decide) hz ⟨by omega, zlv_0.mpr (by omega)⟩ hR2 (by assumption)) (by omega) (by omega) (by rw [← zlen1]; omega) ls (lv_sub hl [0] rfl) H locs (hP.sub [1, 0, 2] rfl) (hD.sub [1, 0, 2] (by decide) rfl) hS
            · have c32_19 := bI_0.mp c32_19
              refine lv_iconst (v := nI 0) hx hb dX6_whole_35 (by decide) ?_
              exact hret hP hD hS dX6_whole_36 rfl (by obtain ⟨e1, e2⟩ := zLf hz ⟨by omega, zlv_0.mpr (by omega)⟩ hR2 (by assumption); subst e1; subst e2; exact ⟨_, _, _, hq9_17, fun h9 => (by cases h9), (bI_f (by decide)).symm, rfl⟩)
        · refine zcsE (va_runV (As := []) (rest := []) ⟨hx, hb, hml, hown, hts⟩ (c_X6_look l D cI cJ h m0 m1 m2 m4 m9 m10 m11 m13 m16 m17 m18 m19 i3 tn sp pt S ST L u T pv ((c + ta.length)) 2 (by first | rfl | assumption | omega) (by first | rfl | assumption | omega) (by first | rfl | assumption | omega) (by first | rfl | assumption | omega) (by first | rfl | assumption | omega) (by omega) H.size) (cwV 0 hts gX6_whole_X6_look rfl rfl rfl (by decide +kernel) ⟨Nat.le_of_ble_eq_true rfl, Nat.le_of_ble_eq_true rfl⟩) (zpV hK hN hZ hP hD hS hA [0, 1] rfl (by decide) 0 rfl rfl rfl) rfl rfl hl.1 rfl (lv_room (Nat.le_of_ble_eq_true rfl)) dX6_whole_10 ⟨Nat.zero_le _, Nat.zero_le _⟩) ?_
          refine zrw (if_neg hpL) ?_
          refine lv_bipush (v := nI 124) hx hb dX6_whole_13 (by decide) ?_
          refine lv_icmp_ne (tgt := 47) hx hb dX6_whole_15 (by decide) (fun c15_22 => ?_) (fun c15_22 => ?_)
          · refine lv_iconst (v := nI 1) hx hb dX6_whole_47 (by decide) ?_
            exact hret hP hD hS dX6_whole_48 rfl (by obtain ⟨e1, e2, e3⟩ := zLe (f := f1) hz (fun h9 => by have h91 := h9.1; have h92 := zlv_0.mp h9.2; omega); subst e1; subst e2; subst e3; exact ⟨_, _, _, (by omega), fun _ => ⟨rfl, rfl, rfl⟩, (bI_t rfl).symm, rfl⟩)
          · exact absurd c15_22 (by decide)
    exact L_9 62  61 q1 t1 (by omega) hz (by omega) (by omega) (by omega) ls (lv_sub hl [0] rfl) _ _ hP hD hS
  · have c4_9 := bI_0.mp c4_9
    refine lv_iconst (v := nI 0) hx hb dX6_whole_7 (by decide) ?_
    exact hret hP hD hS dX6_whole_8 rfl (by obtain ⟨e1, e2⟩ := zLv_ff hR hR1 (by assumption); subst e1; subst e2; exact ⟨_, _, _, hq9_7, fun h9 => (by cases h9), (bI_f (by decide)).symm, rfl⟩)
set_option maxHeartbeats 4000000 in
set_option maxRecDepth 100000 in
theorem c_X6_one_1 (l : Launch) (D : va_G) (cI cJ : ClassId) (h : Nat) (m0 : Nat) (m1 : Nat) (m2 : Nat) (m4 : Nat) (m9 : Nat) (m10 : Nat) (m11 : Nat) (m13 : Nat) (m16 : Nat) (m17 : Nat) (m18 : Nat) (m19 : Nat) (i3 : Int32) (tn : Nat) (sp : Nat) (pt : Nat) (S : Nat → Int32) (ST : Nat → Int32) (L : Nat) (u : Nat) (T : Nat → Nat) (p : Nat) (c : Nat) (b : Bool) (q : Nat) (tl : zTks) (hL : L ≤ 60) (hu1 : u ≤ 1) (hT : ∀ i, i < L → T i < 256) (htb : ∀ i, i < L → S (296 + i) = nI (T i)) (hS4 : S 4 = nI L) (hp : p ≤ L) (hcp : c ≤ p) (hR : zLS T L (zQ T L u 4) 0 p = (b, q, tl)) : zMi l yX6_one wsX6_one ({ frames := 25, cells := 0, slots := 0, locals := 526 } : Room) D [(cI, .int), (cJ, .array .int)] [.ref h] [(h, .inr (6, [.ref m0, .ref m1, .ref m2, .int i3, .ref m4, .int (nI p), .int (nI 1), .int (nI c), .int (nI u), .ref m9, .ref m10, .ref m11, .int (nI tn), .ref m13, .int (nI sp), .int (nI pt), .ref m16, .ref m17, .ref m18, .ref m19])), (m0, .inl (cI, 380, .inl S)), (m9, .inl (cI, 124, .inl ST))] (fun r w => ∃ (c9 o9 : Nat) (ST9 : Nat → Int32), c9 ≤ q ∧ (b = true → c9 = c + tl.length ∧ ST9 = zap2 u ST c tl ∧ o9 = 1) ∧ r = bI (b = true) ∧ w = [(h, .inr (6, [.ref m0, .ref m1, .ref m2, .int i3, .ref m4, .int (nI q), .int (nI o9), .int (nI c9), .int (nI u), .ref m9, .ref m10, .ref m11, .int (nI tn), .ref m13, .int (nI sp), .int (nI pt), .ref m16, .ref m17, .ref m18, .ref m19])), (m0, .inl (cI, 380, .inl S)), (m9, .inl (cI, 124, .inl ST9))]) := by
  refine zMi.start (cc := cX6_one) (maxL := 4) (rt := .boolean) (by first | decide | decide +kernel) rfl (Nat.le_of_ble_eq_true rfl) ?_
  intro pg ev s mt args below meth cd ls AA QQ ⟨hx, hb, hml, hr, hlocks, hown, hts, hK, hN, hZ, hP, hD, hA, hS, hl⟩ hret
  have hown : s.vm.findClass RX6 = some mt.cls := hown
  have hl : lv_has ls 4 [(0, .ref h)] := hl
  have hin6 : ∀ w ∈ wsX60, w ∈ wsX6_one := fun w h => List.mem_cons_of_mem _ (List.mem_append_right _ (h))
  have hR : zQb T L u true (zQ T L u 3) (zLS T L (zQ T L u 3) 5) p = (b, q, tl) := hR
  refine lv_aload_n hx hb dX6_one_0 rfl (lv_at hl 0 rfl) ?_
  by_cases hpL : p < L
  · refine zcsE (va_runV (As := []) (rest := []) ⟨hx, hb, hml, hown, hts⟩ (c_X6_look l D cI cJ h m0 m1 m2 m4 m9 m10 m11 m13 m16 m17 m18 m19 i3 tn sp pt S ST L u T p c 1 (by first | rfl | assumption | omega) (by first | rfl | assumption | omega) (by first | rfl | assumption | omega) (by first | rfl | assumption | omega) (by first | rfl | assumption | omega) (by omega) s.heap.size) (cwV 0 hts gX6_one_X6_look rfl rfl rfl (by decide +kernel) ⟨Nat.le_of_ble_eq_true rfl, Nat.le_of_ble_eq_true rfl⟩) (zpV hK hN hZ hP hD hS hA [0, 1] rfl (by decide) 0 rfl rfl rfl) rfl rfl hl.1 rfl (lv_room (Nat.le_of_ble_eq_true rfl)) dX6_one_1 ⟨Nat.zero_le _, Nat.zero_le _⟩) ?_
    refine zrw (if_pos hpL) ?_
    refine lv_istore_n (lv' := [(1, .int (nI (T p))), (0, .ref h)]) hx hb dX6_one_4 rfl hl (by decide) rfl (fun ls hl => ?_)
    refine lv_aload_n hx hb dX6_one_5 rfl (lv_at hl 1 rfl) ?_
    refine lv_iload_n hx hb dX6_one_6 rfl (lv_at hl 0 rfl) ?_
    refine zcsE (va_runV (As := [.int (nI (T p))]) (rest := []) ⟨hx, hb, hml, hown, hts⟩ (c_X6_isName l D cI cJ h m0 m1 m2 m4 m9 m10 m11 m13 m16 m17 m18 m19 i3 tn sp pt u p 1 c (T p) (by first | rfl | assumption | omega) (hT p (by omega)) s.heap.size) (cwV 1 hts gX6_one_X6_isName rfl rfl rfl (by decide +kernel) ⟨Nat.le_of_ble_eq_true rfl, Nat.le_of_ble_eq_true rfl⟩) (zpV hK hN hZ hP hD hS hA [0] rfl (by decide) 0 rfl rfl rfl) rfl rfl hl.1 rfl (lv_room (Nat.le_of_ble_eq_true rfl)) dX6_one_7 ⟨Nat.zero_le _, Nat.zero_le _⟩) ?_
    refine lv_if_eq (tgt := 31) hx hb dX6_one_10 (by decide) (fun c10_1 => ?_) (fun c10_1 => ?_)
    · have c10_1 := bI_nX0.mp c10_1
      have hnx : znx u (T p) = none := c10_1
      refine lv_iload_n hx hb dX6_one_31 rfl (lv_at hl 0 rfl) ?_
      refine lv_bipush (v := nI 48) hx hb dX6_one_32 (by decide) ?_
      refine lv_bipush (v := nI 57) hx hb dX6_one_34 (by decide) ?_
      refine zcsE (va_runS (As := [.int (nI (T p)), .int (nI 48), .int (nI 57)]) (rest := []) ⟨hx, hb, hml, hown, hts⟩ (d_X6_in l D cI cJ (nI (T p)) (nI 48) (nI 57) 48 57 (by decide) (by decide) s.heap.size) (va_cwS 3 hts gX6_one_X6_in rfl rfl rfl (by decide +kernel) ⟨Nat.le_of_ble_eq_true rfl, Nat.le_of_ble_eq_true rfl⟩) (zpS hK hN hZ hP hD hS hA [] rfl (by decide)) rfl rfl hl.1 rfl (lv_room (Nat.le_of_ble_eq_true rfl)) dX6_one_36 ⟨Nat.zero_le _, Nat.zero_le _⟩) ?_
      refine lv_if_eq (tgt := 102) hx hb dX6_one_39 (by decide) (fun c39_2 => ?_) (fun c39_2 => ?_)
      · have c39_2 := bI_0.mp c39_2
        have hdg0 : ¬ zdg (T p) := fun h9 => c39_2 ((zrg_dg (hT p (by omega))).mpr h9)
        refine lv_iload_n hx hb dX6_one_102 rfl (lv_at hl 0 rfl) ?_
        refine lv_bipush (v := nI 33) hx hb dX6_one_103 (by decide) ?_
        refine lv_icmp_ne (tgt := 142) hx hb dX6_one_105 (by decide) (fun c105_3 => ?_) (fun c105_3 => ?_)
        · have c105_3 : ¬ ((T p) = 33) := fun h9 => c105_3 ((nI_eq (a := T p) (b := 33) (by have h91 := hT p (by omega); omega) (by have h91 := hT p (by omega); omega)).mpr h9)
          refine lv_iload_n hx hb dX6_one_142 rfl (lv_at hl 0 rfl) ?_
          refine lv_bipush (v := nI 40) hx hb dX6_one_143 (by decide) ?_
          refine lv_icmp_ne (tgt := 171) hx hb dX6_one_145 (by decide) (fun c145_4 => ?_) (fun c145_4 => ?_)
          · have c145_4 : ¬ ((T p) = 40) := fun h9 => c145_4 ((nI_eq (a := T p) (b := 40) (by have h91 := hT p (by omega); omega) (by have h91 := hT p (by omega); omega)).mpr h9)
            refine lv_iconst (v := nI 0) hx hb dX6_one_171 (by decide) ?_
            exact hret hP hD hS dX6_one_172 rfl (by obtain ⟨e1, e2⟩ := zq_z hR (by omega) hdg0 hnx (fun h9 => by have h91 := h9.1; omega) (fun h9 => by have h91 := h9.1; omega); subst e1; subst e2; exact ⟨_, _, _, hcp, fun h9 => (by cases h9), (bI_f (by decide)).symm, rfl⟩)
          · have c145_4 : (T p) = 40 := (nI_eq (a := T p) (b := 40) (by have h91 := hT p (by omega); omega) (by have h91 := hT p (by omega); omega)).mp c145_4
            refine lv_aload_n hx hb dX6_one_148 rfl (lv_at hl 1 rfl) ?_
            refine zci (wr := [(m0, .inl (cI, 380, .inl S)), (m9, .inl (cI, 124, .inl ST))]) (va_runV (As := []) (rest := []) ⟨hx, hb, hml, hown, hts⟩ (c_X6_opens_1 l D cI cJ h m0 m1 m2 m4 m9 m10 m11 m13 m16 m17 m18 m19 i3 tn sp pt u p c  s.heap.size) (cwV 0 hts gX6_one_X6_opens rfl rfl rfl (by decide +kernel) ⟨Nat.le_of_ble_eq_true rfl, Nat.le_of_ble_eq_true rfl⟩) (zpV hK hN hZ hP hD hS hA [0] rfl (by decide) 0 rfl rfl rfl) rfl rfl hl.1 rfl (lv_room (Nat.le_of_ble_eq_true rfl)) dX6_one_149 ⟨Nat.zero_le _, Nat.zero_le _⟩) hP hD hS hA [0] [1, 2] rfl rfl (by decide) (by decide) (fun r_7 w_6 H locs h_5 hP hD hS => ?_)
            obtain ⟨rfl, rfl⟩ := h_5
            have hP : va_P D vwCl [(m0, .inl (cI, 380, .inl S)), (m9, .inl (cI, 124, .inl ST)), (h, .inr (6, [.ref m0, .ref m1, .ref m2, .int i3, .ref m4, .int (nI ((p + 1))), .int (nI 2), .int (nI c), .int (nI u), .ref m9, .ref m10, .ref m11, .int (nI tn), .ref m13, .int (nI sp), .int (nI pt), .ref m16, .ref m17, .ref m18, .ref m19]))] H := hP
            have hD : va_D AA [(m0, .inl (cI, 380, .inl S)), (m9, .inl (cI, 124, .inl ST)), (h, .inr (6, [.ref m0, .ref m1, .ref m2, .int i3, .ref m4, .int (nI ((p + 1))), .int (nI 2), .int (nI c), .int (nI u), .ref m9, .ref m10, .ref m11, .int (nI tn), .ref m13, .int (nI sp), .int (nI pt), .ref m16, .ref m17, .ref m18, .ref m19]))] := hD
            refine lv_if_eq (tgt := 171) hx hb dX6_one_152 (by decide) (fun c152_8 => ?_) (fun c152_8 => ?_)
            · have c152_8 : 1 = 0 := (nI_eq (a := 1) (b := 0) (by omega) (by omega)).mp c152_8
              exact absurd c152_8 (by omega)
            · have c152_8 : ¬ (1 = 0) := fun h9 => c152_8 ((nI_eq (a := 1) (b := 0) (by omega) (by omega)).mpr h9)
              obtain ⟨b1, q1, t1, hR1⟩ : ∃ (b0 : Bool) (q0 : Nat) (t0 : zTks), zLS T L (zQ T L u 3) 5 (p + 1) = (b0, q0, t0) := ⟨_, _, _, rfl⟩
              have hg1 := (zLS_gd (T := T) (zQ_gd (T := T) (L := L) (u := u) 3) 5) (p + 1) (by omega)
              rw [hR1] at hg1
              obtain ⟨hga1, hgb1, hgc1⟩ : (p + 1) ≤ q1 ∧ q1 ≤ L ∧ (b1 = true → (p + 1) < q1 ∧ t1.length ≤ q1 - (p + 1) ∧ zw1 t1) := hg1
              refine lv_aload_n hx hb dX6_one_155 rfl (lv_at hl 1 rfl) ?_
              refine zci (wr := []) (va_runV (As := []) (rest := []) ⟨hx, hb, hml, hown, hts⟩ (c_X6_whole_2 l D cI cJ h m0 m1 m2 m4 m9 m10 m11 m13 m16 m17 m18 m19 i3 tn sp pt S ST L u T ((p + 1)) c b1 q1 t1 (by first | rfl | assumption | omega) (by first | rfl | assumption | omega) (by first | rfl | assumption | omega) (by first | rfl | assumption | omega) (by first | rfl | assumption | omega) (by omega) (by omega) hR1 H.size) (cwV 0 hts gX6_one_X6_whole rfl rfl rfl (by decide +kernel) ⟨Nat.le_of_ble_eq_true rfl, Nat.le_of_ble_eq_true rfl⟩) (zpV hK hN hZ hP hD hS hA [2, 0, 1] rfl (by decide) 2 rfl rfl rfl) rfl rfl hl.1 rfl (lv_room (Nat.le_of_ble_eq_true rfl)) dX6_one_156 ⟨Nat.zero_le _, Nat.zero_le _⟩) hP hD hS hA [2, 0, 1] [] rfl rfl (by decide) (by decide) (fun r_11 w_10 H locs h_9 hP hD hS => ?_)
              obtain ⟨c9_12, o9_13, ST9_14, hq9_15, hx9_16, rfl, rfl⟩ := h_9
              have hP : va_P D vwCl [(h, .inr (6, [.ref m0, .ref m1, .ref m2, .int i3, .ref m4, .int (nI q1), .int (nI o9_13), .int (nI c9_12), .int (nI u), .ref m9, .ref m10, .ref m11, .int (nI tn), .ref m13, .int (nI sp), .int (nI pt), .ref m16, .ref m17, .ref m18, .ref m19])), (m0, .inl (cI, 380, .inl S)), (m9, .inl (cI, 124, .inl ST9_14))] H := hP
              have hD : va_D AA [(h, .inr (6, [.ref m0, .ref m1, .ref m2, .int i3, .ref m4, .int (nI q1), .int (nI o9_13), .int (nI c9_12), .int (nI u), .ref m9, .ref m10, .ref m11, .int (nI tn), .ref m13, .int (nI sp), .int (nI pt), .ref m16, .ref m17, .ref m18, .ref m19])), (m0, .inl (cI, 380, .inl S)), (m9, .inl (cI, 124, .inl ST9_14))] := hD
              refine lv_if_eq (tgt := 171) hx hb dX6_one_159 (by decide) (fun c159_17 => ?_) (fun c159_17 => ?_)
              · have c159_17 := bI_0.mp c159_17
                refine lv_iconst (v := nI 0) hx hb dX6_one_171 (by decide) ?_
                exact hret hP hD hS dX6_one_172 rfl (by obtain ⟨e1, e2⟩ := zq_pf hR (by omega) hdg0 hnx (by omega) hR1 (fun h9 => absurd h9.1 (by assumption)); subst e1; subst e2; exact ⟨_, _, _, hq9_15, fun h9 => (by cases h9), (bI_f (by decide)).symm, rfl⟩)
              · have c159_17 := bI_n0.mp c159_17
                obtain ⟨hgd1, hge1, hgf1⟩ := hgc1 c159_17
                obtain ⟨he1, hE1, ho1⟩ := hx9_16 c159_17
                subst he1; subst hE1; subst ho1
                refine lv_aload_n hx hb dX6_one_162 rfl (lv_at hl 1 rfl) ?_
                by_cases hpL : q1 < L
                · refine zcsE (va_runV (As := []) (rest := []) ⟨hx, hb, hml, hown, hts⟩ (c_X6_look l D cI cJ h m0 m1 m2 m4 m9 m10 m11 m13 m16 m17 m18 m19 i3 tn sp pt S ST L u T q1 ((c + t1.length)) 2 (by first | rfl | assumption | omega) (by first | rfl | assumption | omega) (by first | rfl | assumption | omega) (by first | rfl | assumption | omega) (by first | rfl | assumption | omega) (by omega) H.size) (cwV 0 hts gX6_one_X6_look rfl rfl rfl (by decide +kernel) ⟨Nat.le_of_ble_eq_true rfl, Nat.le_of_ble_eq_true rfl⟩) (zpV hK hN hZ hP hD hS hA [0, 1] rfl (by decide) 0 rfl rfl rfl) rfl rfl hl.1 rfl (lv_room (Nat.le_of_ble_eq_true rfl)) dX6_one_163 ⟨Nat.zero_le _, Nat.zero_le _⟩) ?_
                  refine zrw (if_pos hpL) ?_
                  refine lv_bipush (v := nI 41) hx hb dX6_one_166 (by decide) ?_
                  refine lv_icmp_eq (tgt := 173) hx hb dX6_one_168 (by decide) (fun c168_18 => ?_) (fun c168_18 => ?_)
                  · have c168_18 : (T q1) = 41 := (nI_eq (a := T q1) (b := 41) (by have h91 := hT q1 (by omega); omega) (by have h91 := hT q1 (by omega); omega)).mp c168_18
                    refine lv_aload_n hx hb dX6_one_173 rfl (lv_at hl 1 rfl) ?_
                    refine lv_dup hx hb dX6_one_174 rfl ?_
                    refine va_get (ci := 6) (v := .int (nI q1)) (C := RX6) (T := TX6) (N := 20) hx hb hts hin6 hown hK hP 0 rfl rfl 5 (by decide) (hts (.fieldLink RX6 61 "UpAllRoundModel" "at" "I") (List.mem_of_getElem? (i := 1) rfl)) (fun _ h9 => h9) rfl dX6_one_175 ?_
                    refine lv_iconst (v := nI 1) hx hb dX6_one_178 (by decide) ?_
                    refine lv_iadd hx hb dX6_one_179 ?_
                    refine zrw (nI_add _ _) ?_
                    refine va_put (ci := 6) (v := .int (nI (q1 + 1))) (ty := .int) (C := RX6) (T := TX6) (N := 20) hx hb hts hin6 tyX6 tyX6_ok nmX6 hown hK hP hD hS 0 rfl rfl 5 (by decide) (hts (.fieldLink RX6 61 "UpAllRoundModel" "at" "I") (List.mem_of_getElem? (i := 1) rfl)) (fun _ h9 => h9) rfl (by decide +kernel) rfl rfl (Nat.le_of_ble_eq_true rfl) dX6_one_180 (fun H locs hP hD hS => ?_)
                    have hP : va_P D vwCl [(h, .inr (6, [.ref m0, .ref m1, .ref m2, .int i3, .ref m4, .int (nI (q1 + 1)), .int (nI 2), .int (nI ((c + t1.length))), .int (nI u), .ref m9, .ref m10, .ref m11, .int (nI tn), .ref m13, .int (nI sp), .int (nI pt), .ref m16, .ref m17, .ref m18, .ref m19])), (m0, .inl (cI, 380, .inl S)), (m9, .inl (cI, 124, .inl (zap2 u ST c t1)))] H := hP
                    have hD : va_D AA [(h, .inr (6, [.ref m0, .ref m1, .ref m2, .int i3, .ref m4, .int (nI (q1 + 1)), .int (nI 2), .int (nI ((c + t1.length))), .int (nI u), .ref m9, .ref m10, .ref m11, .int (nI tn), .ref m13, .int (nI sp), .int (nI pt), .ref m16, .ref m17, .ref m18, .ref m19])), (m0, .inl (cI, 380, .inl S)), (m9, .inl (cI, 124, .inl (zap2 u ST c t1)))] := hD
                    refine lv_aload_n hx hb dX6_one_183 rfl (lv_at hl 1 rfl) ?_
                    refine lv_dup hx hb dX6_one_184 rfl ?_
                    refine va_get (ci := 6) (v := .int (nI 2)) (C := RX6) (T := TX6) (N := 20) hx hb hts hin6 hown hK hP 0 rfl rfl 6 (by decide) (hts (.fieldLink RX6 95 "UpAllRoundModel" "open" "I") (List.mem_of_getElem? (i := 2) rfl)) (fun _ h9 => h9) rfl dX6_one_185 ?_
                    refine lv_iconst (v := nI 1) hx hb dX6_one_188 (by decide) ?_
                    refine lv_isub hx hb dX6_one_189 ?_
                    refine zrw (pk_sub (by omega)) ?_
                    refine va_put (ci := 6) (v := .int (nI 1)) (ty := .int) (C := RX6) (T := TX6) (N := 20) hx hb hts hin6 tyX6 tyX6_ok nmX6 hown hK hP hD hS 0 rfl rfl 6 (by decide) (hts (.fieldLink RX6 95 "UpAllRoundModel" "open" "I") (List.mem_of_getElem? (i := 2) rfl)) (fun _ h9 => h9) rfl (by decide +kernel) rfl rfl (Nat.le_of_ble_eq_true rfl) dX6_one_190 (fun H locs hP hD hS => ?_)
                    have hP : va_P D vwCl [(h, .inr (6, [.ref m0, .ref m1, .ref m2, .int i3, .ref m4, .int (nI (q1 + 1)), .int (nI 1), .int (nI ((c + t1.length))), .int (nI u), .ref m9, .ref m10, .ref m11, .int (nI tn), .ref m13, .int (nI sp), .int (nI pt), .ref m16, .ref m17, .ref m18, .ref m19])), (m0, .inl (cI, 380, .inl S)), (m9, .inl (cI, 124, .inl (zap2 u ST c t1)))] H := hP
                    have hD : va_D AA [(h, .inr (6, [.ref m0, .ref m1, .ref m2, .int i3, .ref m4, .int (nI (q1 + 1)), .int (nI 1), .int (nI ((c + t1.length))), .int (nI u), .ref m9, .ref m10, .ref m11, .int (nI tn), .ref m13, .int (nI sp), .int (nI pt), .ref m16, .ref m17, .ref m18, .ref m19])), (m0, .inl (cI, 380, .inl S)), (m9, .inl (cI, 124, .inl (zap2 u ST c t1)))] := hD
                    refine lv_iconst (v := nI 1) hx hb dX6_one_193 (by decide) ?_
                    exact hret hP hD hS dX6_one_194 rfl (by obtain ⟨e1, e2, e3⟩ := zq_pt hR (by omega) hdg0 hnx (by omega) hR1 (by assumption) ⟨by omega, by omega⟩; subst e1; subst e2; subst e3; exact ⟨_, _, _, show c + _ ≤ _ from (by omega), fun _ => ⟨rfl, rfl, rfl⟩, (bI_t rfl).symm, rfl⟩)
                  · have c168_18 : ¬ ((T q1) = 41) := fun h9 => c168_18 ((nI_eq (a := T q1) (b := 41) (by have h91 := hT q1 (by omega); omega) (by have h91 := hT q1 (by omega); omega)).mpr h9)
                    refine lv_iconst (v := nI 0) hx hb dX6_one_171 (by decide) ?_
                    exact hret hP hD hS dX6_one_172 rfl (by obtain ⟨e1, e2⟩ := zq_pf hR (by omega) hdg0 hnx (by omega) hR1 (fun h9 => by have h91 := h9.2; omega); subst e1; subst e2; exact ⟨_, _, _, (show c + _ ≤ _ from (by omega)), fun h9 => (by cases h9), (bI_f (by decide)).symm, rfl⟩)
                · refine zcsE (va_runV (As := []) (rest := []) ⟨hx, hb, hml, hown, hts⟩ (c_X6_look l D cI cJ h m0 m1 m2 m4 m9 m10 m11 m13 m16 m17 m18 m19 i3 tn sp pt S ST L u T q1 ((c + t1.length)) 2 (by first | rfl | assumption | omega) (by first | rfl | assumption | omega) (by first | rfl | assumption | omega) (by first | rfl | assumption | omega) (by first | rfl | assumption | omega) (by omega) H.size) (cwV 0 hts gX6_one_X6_look rfl rfl rfl (by decide +kernel) ⟨Nat.le_of_ble_eq_true rfl, Nat.le_of_ble_eq_true rfl⟩) (zpV hK hN hZ hP hD hS hA [0, 1] rfl (by decide) 0 rfl rfl rfl) rfl rfl hl.1 rfl (lv_room (Nat.le_of_ble_eq_true rfl)) dX6_one_163 ⟨Nat.zero_le _, Nat.zero_le _⟩) ?_
                  refine zrw (if_neg hpL) ?_
                  refine lv_bipush (v := nI 41) hx hb dX6_one_166 (by decide) ?_
                  refine lv_icmp_eq (tgt := 173) hx hb dX6_one_168 (by decide) (fun c168_19 => ?_) (fun c168_19 => ?_)
                  · exact absurd c168_19 (by decide)
                  · refine lv_iconst (v := nI 0) hx hb dX6_one_171 (by decide) ?_
                    exact hret hP hD hS dX6_one_172 rfl (by obtain ⟨e1, e2⟩ := zq_pf hR (by omega) hdg0 hnx (by omega) hR1 (fun h9 => by have h91 := h9.2; omega); subst e1; subst e2; exact ⟨_, _, _, (show c + _ ≤ _ from (by omega)), fun h9 => (by cases h9), (bI_f (by decide)).symm, rfl⟩)
        · have c105_3 : (T p) = 33 := (nI_eq (a := T p) (b := 33) (by have h91 := hT p (by omega); omega) (by have h91 := hT p (by omega); omega)).mp c105_3
          refine lv_aload_n hx hb dX6_one_108 rfl (lv_at hl 1 rfl) ?_
          refine zci (wr := [(m0, .inl (cI, 380, .inl S)), (m9, .inl (cI, 124, .inl ST))]) (va_runV (As := []) (rest := []) ⟨hx, hb, hml, hown, hts⟩ (c_X6_opens_1 l D cI cJ h m0 m1 m2 m4 m9 m10 m11 m13 m16 m17 m18 m19 i3 tn sp pt u p c  s.heap.size) (cwV 0 hts gX6_one_X6_opens rfl rfl rfl (by decide +kernel) ⟨Nat.le_of_ble_eq_true rfl, Nat.le_of_ble_eq_true rfl⟩) (zpV hK hN hZ hP hD hS hA [0] rfl (by decide) 0 rfl rfl rfl) rfl rfl hl.1 rfl (lv_room (Nat.le_of_ble_eq_true rfl)) dX6_one_109 ⟨Nat.zero_le _, Nat.zero_le _⟩) hP hD hS hA [0] [1, 2] rfl rfl (by decide) (by decide) (fun r_22 w_21 H locs h_20 hP hD hS => ?_)
          obtain ⟨rfl, rfl⟩ := h_20
          have hP : va_P D vwCl [(m0, .inl (cI, 380, .inl S)), (m9, .inl (cI, 124, .inl ST)), (h, .inr (6, [.ref m0, .ref m1, .ref m2, .int i3, .ref m4, .int (nI ((p + 1))), .int (nI 2), .int (nI c), .int (nI u), .ref m9, .ref m10, .ref m11, .int (nI tn), .ref m13, .int (nI sp), .int (nI pt), .ref m16, .ref m17, .ref m18, .ref m19]))] H := hP
          have hD : va_D AA [(m0, .inl (cI, 380, .inl S)), (m9, .inl (cI, 124, .inl ST)), (h, .inr (6, [.ref m0, .ref m1, .ref m2, .int i3, .ref m4, .int (nI ((p + 1))), .int (nI 2), .int (nI c), .int (nI u), .ref m9, .ref m10, .ref m11, .int (nI tn), .ref m13, .int (nI sp), .int (nI pt), .ref m16, .ref m17, .ref m18, .ref m19]))] := hD
          refine lv_if_eq (tgt := 122) hx hb dX6_one_112 (by decide) (fun c112_23 => ?_) (fun c112_23 => ?_)
          · have c112_23 : 1 = 0 := (nI_eq (a := 1) (b := 0) (by omega) (by omega)).mp c112_23
            exact absurd c112_23 (by omega)
          · have c112_23 : ¬ (1 = 0) := fun h9 => c112_23 ((nI_eq (a := 1) (b := 0) (by omega) (by omega)).mpr h9)
            obtain ⟨b1, q1, t1, hR1⟩ : ∃ (b0 : Bool) (q0 : Nat) (t0 : zTks), zQ T L u 3 (p + 1) = (b0, q0, t0) := ⟨_, _, _, rfl⟩
            have hg1 := (zQ_gd (T := T) (L := L) (u := u) 3) (p + 1) (by omega)
            rw [hR1] at hg1
            obtain ⟨hga1, hgb1, hgc1⟩ : (p + 1) ≤ q1 ∧ q1 ≤ L ∧ (b1 = true → (p + 1) < q1 ∧ t1.length ≤ q1 - (p + 1) ∧ zw1 t1) := hg1
            refine lv_aload_n hx hb dX6_one_115 rfl (lv_at hl 1 rfl) ?_
            refine zci (wr := []) (va_runV (As := []) (rest := []) ⟨hx, hb, hml, hown, hts⟩ (c_X6_one_2 l D cI cJ h m0 m1 m2 m4 m9 m10 m11 m13 m16 m17 m18 m19 i3 tn sp pt S ST L u T ((p + 1)) c b1 q1 t1 (by first | rfl | assumption | omega) (by first | rfl | assumption | omega) (by first | rfl | assumption | omega) (by first | rfl | assumption | omega) (by first | rfl | assumption | omega) (by omega) (by omega) hR1 H.size) (cwV 0 hts gX6_one_X6_one rfl rfl rfl (by decide +kernel) ⟨Nat.le_of_ble_eq_true rfl, Nat.le_of_ble_eq_true rfl⟩) (zpV hK hN hZ hP hD hS hA [2, 0, 1] rfl (by decide) 2 rfl rfl rfl) rfl rfl hl.1 rfl (lv_room (Nat.le_of_ble_eq_true rfl)) dX6_one_116 ⟨Nat.zero_le _, Nat.zero_le _⟩) hP hD hS hA [2, 0, 1] [] rfl rfl (by decide) (by decide) (fun r_26 w_25 H locs h_24 hP hD hS => ?_)
            obtain ⟨c9_27, o9_28, ST9_29, hq9_30, hx9_31, rfl, rfl⟩ := h_24
            have hP : va_P D vwCl [(h, .inr (6, [.ref m0, .ref m1, .ref m2, .int i3, .ref m4, .int (nI q1), .int (nI o9_28), .int (nI c9_27), .int (nI u), .ref m9, .ref m10, .ref m11, .int (nI tn), .ref m13, .int (nI sp), .int (nI pt), .ref m16, .ref m17, .ref m18, .ref m19])), (m0, .inl (cI, 380, .inl S)), (m9, .inl (cI, 124, .inl ST9_29))] H := hP
            have hD : va_D AA [(h, .inr (6, [.ref m0, .ref m1, .ref m2, .int i3, .ref m4, .int (nI q1), .int (nI o9_28), .int (nI c9_27), .int (nI u), .ref m9, .ref m10, .ref m11, .int (nI tn), .ref m13, .int (nI sp), .int (nI pt), .ref m16, .ref m17, .ref m18, .ref m19])), (m0, .inl (cI, 380, .inl S)), (m9, .inl (cI, 124, .inl ST9_29))] := hD
            refine lv_if_ne (tgt := 124) hx hb dX6_one_119 (by decide) (fun c119_32 => ?_) (fun c119_32 => ?_)
            · have c119_32 := bI_n0.mp c119_32
              obtain ⟨hgd1, hge1, hgf1⟩ := hgc1 c119_32
              obtain ⟨he1, hE1, ho1⟩ := hx9_31 c119_32
              subst he1; subst hE1; subst ho1
              refine lv_aload_n hx hb dX6_one_124 rfl (lv_at hl 1 rfl) ?_
              refine lv_dup hx hb dX6_one_125 rfl ?_
              refine va_get (ci := 6) (v := .int (nI 2)) (C := RX6) (T := TX6) (N := 20) hx hb hts hin6 hown hK hP 0 rfl rfl 6 (by decide) (hts (.fieldLink RX6 95 "UpAllRoundModel" "open" "I") (List.mem_of_getElem? (i := 2) rfl)) (fun _ h9 => h9) rfl dX6_one_126 ?_
              refine lv_iconst (v := nI 1) hx hb dX6_one_129 (by decide) ?_
              refine lv_isub hx hb dX6_one_130 ?_
              refine zrw (pk_sub (by omega)) ?_
              refine va_put (ci := 6) (v := .int (nI 1)) (ty := .int) (C := RX6) (T := TX6) (N := 20) hx hb hts hin6 tyX6 tyX6_ok nmX6 hown hK hP hD hS 0 rfl rfl 6 (by decide) (hts (.fieldLink RX6 95 "UpAllRoundModel" "open" "I") (List.mem_of_getElem? (i := 2) rfl)) (fun _ h9 => h9) rfl (by decide +kernel) rfl rfl (Nat.le_of_ble_eq_true rfl) dX6_one_131 (fun H locs hP hD hS => ?_)
              have hP : va_P D vwCl [(h, .inr (6, [.ref m0, .ref m1, .ref m2, .int i3, .ref m4, .int (nI q1), .int (nI 1), .int (nI ((c + t1.length))), .int (nI u), .ref m9, .ref m10, .ref m11, .int (nI tn), .ref m13, .int (nI sp), .int (nI pt), .ref m16, .ref m17, .ref m18, .ref m19])), (m0, .inl (cI, 380, .inl S)), (m9, .inl (cI, 124, .inl (zap2 u ST c t1)))] H := hP
              have hD : va_D AA [(h, .inr (6, [.ref m0, .ref m1, .ref m2, .int i3, .ref m4, .int (nI q1), .int (nI 1), .int (nI ((c + t1.length))), .int (nI u), .ref m9, .ref m10, .ref m11, .int (nI tn), .ref m13, .int (nI sp), .int (nI pt), .ref m16, .ref m17, .ref m18, .ref m19])), (m0, .inl (cI, 380, .inl S)), (m9, .inl (cI, 124, .inl (zap2 u ST c t1)))] := hD
              refine lv_aload_n hx hb dX6_one_134 rfl (lv_at hl 1 rfl) ?_
              refine lv_iconst (v := nI 2) hx hb dX6_one_135 (by decide) ?_
              refine lv_iconst (v := nI 0) hx hb dX6_one_136 (by decide) ?_
              refine zcv (wr := [(m0, .inl (cI, 380, .inl S))]) (va_runV (As := [.int (nI 2), .int (nI 0)]) (rest := []) ⟨hx, hb, hml, hown, hts⟩ (c_X6_step1 l D cI cJ h m0 m1 m2 m4 m9 m10 m11 m13 m16 m17 m18 m19 i3 tn sp pt u q1 1 ((c + t1.length)) (zap2 u ST c t1) 2 (nI 0) (by omega) H.size) (cwV 2 hts gX6_one_X6_step1 rfl rfl rfl (by decide +kernel) ⟨Nat.le_of_ble_eq_true rfl, Nat.le_of_ble_eq_true rfl⟩) (zpV hK hN hZ hP hD hS hA [0, 2] rfl (by decide) 0 rfl rfl rfl) rfl rfl hl.1 rfl (lv_room (Nat.le_of_ble_eq_true rfl)) dX6_one_137 ⟨Nat.zero_le _, Nat.zero_le _⟩) hP hD hS hA [0, 2] [1] rfl rfl (by decide) (by decide) (fun w_34 H locs h_33 hP hD hS => ?_)
              obtain rfl := h_33
              have hP : va_P D vwCl [(m0, .inl (cI, 380, .inl S)), (h, .inr (6, [.ref m0, .ref m1, .ref m2, .int i3, .ref m4, .int (nI q1), .int (nI 1), .int (nI ((((c + t1.length)) + 1))), .int (nI u), .ref m9, .ref m10, .ref m11, .int (nI tn), .ref m13, .int (nI sp), .int (nI pt), .ref m16, .ref m17, .ref m18, .ref m19])), (m9, .inl (cI, 124, .inl ((upd (upd (zap2 u ST c t1) (2 * ((c + t1.length))) (nI 2)) (2 * ((c + t1.length)) + 1) (nI 0)))))] H := hP
              have hD : va_D AA [(m0, .inl (cI, 380, .inl S)), (h, .inr (6, [.ref m0, .ref m1, .ref m2, .int i3, .ref m4, .int (nI q1), .int (nI 1), .int (nI ((((c + t1.length)) + 1))), .int (nI u), .ref m9, .ref m10, .ref m11, .int (nI tn), .ref m13, .int (nI sp), .int (nI pt), .ref m16, .ref m17, .ref m18, .ref m19])), (m9, .inl (cI, 124, .inl ((upd (upd (zap2 u ST c t1) (2 * ((c + t1.length))) (nI 2)) (2 * ((c + t1.length)) + 1) (nI 0)))))] := hD
              refine lv_iconst (v := nI 1) hx hb dX6_one_140 (by decide) ?_
              have hP := hP.sub (ws' := [(h, .inr (6, [.ref m0, .ref m1, .ref m2, .int i3, .ref m4, .int (nI q1), .int (nI 1), .int (nI ((((c + t1.length)) + 1))), .int (nI u), .ref m9, .ref m10, .ref m11, .int (nI tn), .ref m13, .int (nI sp), .int (nI pt), .ref m16, .ref m17, .ref m18, .ref m19])), (m0, .inl (cI, 380, .inl S)), (m9, .inl (cI, 124, .inl ((upd (upd (zap2 u ST c t1) (2 * ((c + t1.length))) (nI 2)) (2 * ((c + t1.length)) + 1) (nI 0)))))]) [1, 0, 2] rfl
              have hD := hD.sub (ws' := [(h, .inr (6, [.ref m0, .ref m1, .ref m2, .int i3, .ref m4, .int (nI q1), .int (nI 1), .int (nI ((((c + t1.length)) + 1))), .int (nI u), .ref m9, .ref m10, .ref m11, .int (nI tn), .ref m13, .int (nI sp), .int (nI pt), .ref m16, .ref m17, .ref m18, .ref m19])), (m0, .inl (cI, 380, .inl S)), (m9, .inl (cI, 124, .inl ((upd (upd (zap2 u ST c t1) (2 * ((c + t1.length))) (nI 2)) (2 * ((c + t1.length)) + 1) (nI 0)))))]) [1, 0, 2] (by decide) rfl
              exact hret hP hD hS dX6_one_141 rfl (by obtain ⟨e1, e2, e3⟩ := zq_not hR (by omega) hdg0 hnx (by omega) hR1; subst e1; subst e2; rw [e3 (by assumption)]; exact ⟨_, _, _, show c + t1.length + 1 ≤ _ from (by omega), fun _ => ⟨zlen0, zap20 (t := (2, 0)), rfl⟩, (bI_t (by assumption)).symm, rfl⟩)
            · have c119_32 := bI_0.mp c119_32
              refine lv_iconst (v := nI 0) hx hb dX6_one_122 (by decide) ?_
              exact hret hP hD hS dX6_one_123 rfl (by obtain ⟨e1, e2, e3⟩ := zq_not hR (by omega) hdg0 hnx (by omega) hR1; subst e1; subst e2; exact ⟨_, _, _, hq9_30, fun h9 => absurd h9 (by assumption), (bI_f (by assumption)).symm, rfl⟩)
      · have c39_2 := bI_n0.mp c39_2
        have hdg0 : zdg (T p) := (zrg_dg (hT p (by omega))).mp c39_2
        refine lv_iconst (v := nI 0) hx hb dX6_one_42 (by decide) ?_
        refine lv_istore_n (lv' := [(2, .int (nI 0)), (1, .int (nI (T p))), (0, .ref h)]) hx hb dX6_one_43 rfl hl (by decide) rfl (fun ls hl => ?_)
        refine lv_iconst (v := nI 0) hx hb dX6_one_44 (by decide) ?_
        refine lv_istore_n (lv' := [(3, .int (nI 0)), (2, .int (nI 0)), (1, .int (nI (T p))), (0, .ref h)]) hx hb dX6_one_45 rfl hl (by decide) rfl (fun ls hl => ?_)
        have L_46 : ∀ (fu i : Nat) (pv : Nat) (v : Nat) (hi : i ≤ 4) (hn : 4 + 1 ≤ i + fu) (hz : zNm T L (4 - i) pv v = zNm T L 4 p 0) (hpv : pv ≤ L) (hv : v < 10 ^ i), ∀ (ls : Array Slot), lv_has ls 4 [(0, .ref h), (2, .int (nI v)), (3, .int (nI i))] → ∀ (H : Heap) (locs : List Loc), va_P D vwCl [(h, .inr (6, [.ref m0, .ref m1, .ref m2, .int i3, .ref m4, .int (nI pv), .int (nI 1), .int (nI c), .int (nI u), .ref m9, .ref m10, .ref m11, .int (nI tn), .ref m13, .int (nI sp), .int (nI pt), .ref m16, .ref m17, .ref m18, .ref m19])), (m0, .inl (cI, 380, .inl S)), (m9, .inl (cI, 124, .inl ST))] H → va_D AA [(h, .inr (6, [.ref m0, .ref m1, .ref m2, .int i3, .ref m4, .int (nI pv), .int (nI 1), .int (nI c), .int (nI u), .ref m9, .ref m10, .ref m11, .int (nI tn), .ref m13, .int (nI sp), .int (nI pt), .ref m16, .ref m17, .ref m18, .ref m19])), (m0, .inl (cI, 380, .inl S)), (m9, .inl (cI, 124, .inl ST))] → va_S AA s.heap H locs → W pg l ev ({ frames := 25, cells := 0, slots := 0, locals := 526 } : Room) s mt args below meth cd H locs 0 0 QQ (F0 mt 46 ls []) := by
          intro fu
          induction fu with
          | zero =>
            intro i pv v hi hn
            exact absurd hn (by omega)
          | succ fu ih_46 =>
            intro i pv v hi hn hz hpv hv ls hl H locs hP hD hS
            refine lv_iload_n hx hb dX6_one_46 rfl (lv_at hl 2 rfl) ?_
            refine lv_iconst (v := nI 4) hx hb dX6_one_47 (by decide) ?_
            refine lv_icmp_ge (tgt := 94) hx hb dX6_one_48 (by decide) (fun c48_35 => ?_) (fun c48_35 => ?_)
            · have c48_35 : 4 ≤ i := (nI_leI (a := 4) (b := i) (by omega) (by omega)).mp c48_35
              have hfin : zNm T L 4 p 0 = (pv, v) := by rw [← hz]; rw [show 4 - i = 0 by omega] <;> rfl
              refine lv_aload_n hx hb dX6_one_94 rfl (lv_at hl 0 rfl) ?_
              refine lv_iconst (v := nI 0) hx hb dX6_one_95 (by decide) ?_
              refine lv_iload_n hx hb dX6_one_96 rfl (lv_at hl 1 rfl) ?_
              refine zcv (wr := [(m0, .inl (cI, 380, .inl S))]) (va_runV (As := [.int (nI 0), .int (nI v)]) (rest := []) ⟨hx, hb, hml, hown, hts⟩ (c_X6_step1 l D cI cJ h m0 m1 m2 m4 m9 m10 m11 m13 m16 m17 m18 m19 i3 tn sp pt u pv 1 c ST 0 (nI v) (by omega) H.size) (cwV 2 hts gX6_one_X6_step1 rfl rfl rfl (by decide +kernel) ⟨Nat.le_of_ble_eq_true rfl, Nat.le_of_ble_eq_true rfl⟩) (zpV hK hN hZ hP hD hS hA [0, 2] rfl (by decide) 0 rfl rfl rfl) rfl rfl hl.1 rfl (lv_room (Nat.le_of_ble_eq_true rfl)) dX6_one_97 ⟨Nat.zero_le _, Nat.zero_le _⟩) hP hD hS hA [0, 2] [1] rfl rfl (by decide) (by decide) (fun w_37 H locs h_36 hP hD hS => ?_)
              obtain rfl := h_36
              have hP : va_P D vwCl [(m0, .inl (cI, 380, .inl S)), (h, .inr (6, [.ref m0, .ref m1, .ref m2, .int i3, .ref m4, .int (nI pv), .int (nI 1), .int (nI ((c + 1))), .int (nI u), .ref m9, .ref m10, .ref m11, .int (nI tn), .ref m13, .int (nI sp), .int (nI pt), .ref m16, .ref m17, .ref m18, .ref m19])), (m9, .inl (cI, 124, .inl ((upd (upd ST (2 * c) (nI 0)) (2 * c + 1) (nI v)))))] H := hP
              have hD : va_D AA [(m0, .inl (cI, 380, .inl S)), (h, .inr (6, [.ref m0, .ref m1, .ref m2, .int i3, .ref m4, .int (nI pv), .int (nI 1), .int (nI ((c + 1))), .int (nI u), .ref m9, .ref m10, .ref m11, .int (nI tn), .ref m13, .int (nI sp), .int (nI pt), .ref m16, .ref m17, .ref m18, .ref m19])), (m9, .inl (cI, 124, .inl ((upd (upd ST (2 * c) (nI 0)) (2 * c + 1) (nI v)))))] := hD
              refine lv_iconst (v := nI 1) hx hb dX6_one_100 (by decide) ?_
              have hP := hP.sub (ws' := [(h, .inr (6, [.ref m0, .ref m1, .ref m2, .int i3, .ref m4, .int (nI pv), .int (nI 1), .int (nI ((c + 1))), .int (nI u), .ref m9, .ref m10, .ref m11, .int (nI tn), .ref m13, .int (nI sp), .int (nI pt), .ref m16, .ref m17, .ref m18, .ref m19])), (m0, .inl (cI, 380, .inl S)), (m9, .inl (cI, 124, .inl ((upd (upd ST (2 * c) (nI 0)) (2 * c + 1) (nI v)))))]) [1, 0, 2] rfl
              have hD := hD.sub (ws' := [(h, .inr (6, [.ref m0, .ref m1, .ref m2, .int i3, .ref m4, .int (nI pv), .int (nI 1), .int (nI ((c + 1))), .int (nI u), .ref m9, .ref m10, .ref m11, .int (nI tn), .ref m13, .int (nI sp), .int (nI pt), .ref m16, .ref m17, .ref m18, .ref m19])), (m0, .inl (cI, 380, .inl S)), (m9, .inl (cI, 124, .inl ((upd (upd ST (2 * c) (nI 0)) (2 * c + 1) (nI v)))))]) [1, 0, 2] (by decide) rfl
              exact hret hP hD hS dX6_one_101 rfl (by obtain ⟨e1, e2, e3⟩ := zq_d hR (by omega) hdg0; rw [hfin] at e2 e3; subst e1; subst e2; subst e3; exact ⟨_, _, _, show c + 1 ≤ _ from (by have h91 := zNm_4 (T := T) (L := L) (p := p) (by omega) hdg0; rw [hfin] at h91; omega), fun _ => ⟨rfl, rfl, rfl⟩, (bI_t rfl).symm, rfl⟩)
            · have c48_35 : ¬ (4 ≤ i) := fun h9 => c48_35 ((nI_leI (a := 4) (b := i) (by omega) (by omega)).mpr h9)
              refine lv_aload_n hx hb dX6_one_51 rfl (lv_at hl 0 rfl) ?_
              by_cases hpL : pv < L
              · refine zcsE (va_runV (As := []) (rest := []) ⟨hx, hb, hml, hown, hts⟩ (c_X6_look l D cI cJ h m0 m1 m2 m4 m9 m10 m11 m13 m16 m17 m18 m19 i3 tn sp pt S ST L u T pv c 1 (by first | rfl | assumption | omega) (by first | rfl | assumption | omega) (by first | rfl | assumption | omega) (by first | rfl | assumption | omega) (by first | rfl | assumption | omega) (by omega) H.size) (cwV 0 hts gX6_one_X6_look rfl rfl rfl (by decide +kernel) ⟨Nat.le_of_ble_eq_true rfl, Nat.le_of_ble_eq_true rfl⟩) (zpV hK hN hZ hP hD hS hA [0, 1] rfl (by decide) 0 rfl rfl rfl) rfl rfl hl.1 rfl (lv_room (Nat.le_of_ble_eq_true rfl)) dX6_one_52 ⟨Nat.zero_le _, Nat.zero_le _⟩) ?_
                refine zrw (if_pos hpL) ?_
                refine lv_bipush (v := nI 48) hx hb dX6_one_55 (by decide) ?_
                refine lv_bipush (v := nI 57) hx hb dX6_one_57 (by decide) ?_
                refine zcsE (va_runS (As := [.int (nI (T pv)), .int (nI 48), .int (nI 57)]) (rest := []) ⟨hx, hb, hml, hown, hts⟩ (d_X6_in l D cI cJ (nI (T pv)) (nI 48) (nI 57) 48 57 (by decide) (by decide) H.size) (va_cwS 3 hts gX6_one_X6_in rfl rfl rfl (by decide +kernel) ⟨Nat.le_of_ble_eq_true rfl, Nat.le_of_ble_eq_true rfl⟩) (zpS hK hN hZ hP hD hS hA [] rfl (by decide)) rfl rfl hl.1 rfl (lv_room (Nat.le_of_ble_eq_true rfl)) dX6_one_59 ⟨Nat.zero_le _, Nat.zero_le _⟩) ?_
                refine lv_if_eq (tgt := 94) hx hb dX6_one_62 (by decide) (fun c62_38 => ?_) (fun c62_38 => ?_)
                · have c62_38 := bI_0.mp c62_38
                  have hfin : zNm T L 4 p 0 = (pv, v) := by rw [← hz]; rw [show 4 - i = (3 - i) + 1 by omega, zNm_f (fun h9 => absurd ((zrg_dg (hT pv (by omega))).mpr h9.2) (by assumption))]
                  refine lv_aload_n hx hb dX6_one_94 rfl (lv_at hl 0 rfl) ?_
                  refine lv_iconst (v := nI 0) hx hb dX6_one_95 (by decide) ?_
                  refine lv_iload_n hx hb dX6_one_96 rfl (lv_at hl 1 rfl) ?_
                  refine zcv (wr := [(m0, .inl (cI, 380, .inl S))]) (va_runV (As := [.int (nI 0), .int (nI v)]) (rest := []) ⟨hx, hb, hml, hown, hts⟩ (c_X6_step1 l D cI cJ h m0 m1 m2 m4 m9 m10 m11 m13 m16 m17 m18 m19 i3 tn sp pt u pv 1 c ST 0 (nI v) (by omega) H.size) (cwV 2 hts gX6_one_X6_step1 rfl rfl rfl (by decide +kernel) ⟨Nat.le_of_ble_eq_true rfl, Nat.le_of_ble_eq_true rfl⟩) (zpV hK hN hZ hP hD hS hA [0, 2] rfl (by decide) 0 rfl rfl rfl) rfl rfl hl.1 rfl (lv_room (Nat.le_of_ble_eq_true rfl)) dX6_one_97 ⟨Nat.zero_le _, Nat.zero_le _⟩) hP hD hS hA [0, 2] [1] rfl rfl (by decide) (by decide) (fun w_40 H locs h_39 hP hD hS => ?_)
                  obtain rfl := h_39
                  have hP : va_P D vwCl [(m0, .inl (cI, 380, .inl S)), (h, .inr (6, [.ref m0, .ref m1, .ref m2, .int i3, .ref m4, .int (nI pv), .int (nI 1), .int (nI ((c + 1))), .int (nI u), .ref m9, .ref m10, .ref m11, .int (nI tn), .ref m13, .int (nI sp), .int (nI pt), .ref m16, .ref m17, .ref m18, .ref m19])), (m9, .inl (cI, 124, .inl ((upd (upd ST (2 * c) (nI 0)) (2 * c + 1) (nI v)))))] H := hP
                  have hD : va_D AA [(m0, .inl (cI, 380, .inl S)), (h, .inr (6, [.ref m0, .ref m1, .ref m2, .int i3, .ref m4, .int (nI pv), .int (nI 1), .int (nI ((c + 1))), .int (nI u), .ref m9, .ref m10, .ref m11, .int (nI tn), .ref m13, .int (nI sp), .int (nI pt), .ref m16, .ref m17, .ref m18, .ref m19])), (m9, .inl (cI, 124, .inl ((upd (upd ST (2 * c) (nI 0)) (2 * c + 1) (nI v)))))] := hD
                  refine lv_iconst (v := nI 1) hx hb dX6_one_100 (by decide) ?_
                  have hP := hP.sub (ws' := [(h, .inr (6, [.ref m0, .ref m1, .ref m2, .int i3, .ref m4, .int (nI pv), .int (nI 1), .int (nI ((c + 1))), .int (nI u), .ref m9, .ref m10, .ref m11, .int (nI tn), .ref m13, .int (nI sp), .int (nI pt), .ref m16, .ref m17, .ref m18, .ref m19])), (m0, .inl (cI, 380, .inl S)), (m9, .inl (cI, 124, .inl ((upd (upd ST (2 * c) (nI 0)) (2 * c + 1) (nI v)))))]) [1, 0, 2] rfl
                  have hD := hD.sub (ws' := [(h, .inr (6, [.ref m0, .ref m1, .ref m2, .int i3, .ref m4, .int (nI pv), .int (nI 1), .int (nI ((c + 1))), .int (nI u), .ref m9, .ref m10, .ref m11, .int (nI tn), .ref m13, .int (nI sp), .int (nI pt), .ref m16, .ref m17, .ref m18, .ref m19])), (m0, .inl (cI, 380, .inl S)), (m9, .inl (cI, 124, .inl ((upd (upd ST (2 * c) (nI 0)) (2 * c + 1) (nI v)))))]) [1, 0, 2] (by decide) rfl
                  exact hret hP hD hS dX6_one_101 rfl (by obtain ⟨e1, e2, e3⟩ := zq_d hR (by omega) hdg0; rw [hfin] at e2 e3; subst e1; subst e2; subst e3; exact ⟨_, _, _, show c + 1 ≤ _ from (by have h91 := zNm_4 (T := T) (L := L) (p := p) (by omega) hdg0; rw [hfin] at h91; omega), fun _ => ⟨rfl, rfl, rfl⟩, (bI_t rfl).symm, rfl⟩)
                · have c62_38 := bI_n0.mp c62_38
                  have hdg9 : 48 ≤ T pv ∧ T pv ≤ 57 := (zrg_dg (hT pv (by omega))).mp c62_38
                  refine lv_bipush (v := nI 10) hx hb dX6_one_65 (by decide) ?_
                  refine lv_iload_n hx hb dX6_one_67 rfl (lv_at hl 1 rfl) ?_
                  refine lv_imul hx hb dX6_one_68 ?_
                  refine zrw (pk_mul _ _) ?_
                  refine lv_aload_n hx hb dX6_one_69 rfl (lv_at hl 0 rfl) ?_
                  refine zcsE (va_runV (As := []) (rest := [.int (nI (10 * v))]) ⟨hx, hb, hml, hown, hts⟩ (c_X6_look l D cI cJ h m0 m1 m2 m4 m9 m10 m11 m13 m16 m17 m18 m19 i3 tn sp pt S ST L u T pv c 1 (by first | rfl | assumption | omega) (by first | rfl | assumption | omega) (by first | rfl | assumption | omega) (by first | rfl | assumption | omega) (by first | rfl | assumption | omega) (by omega) H.size) (cwV 0 hts gX6_one_X6_look rfl rfl rfl (by decide +kernel) ⟨Nat.le_of_ble_eq_true rfl, Nat.le_of_ble_eq_true rfl⟩) (zpV hK hN hZ hP hD hS hA [0, 1] rfl (by decide) 0 rfl rfl rfl) rfl rfl hl.1 rfl (lv_room (Nat.le_of_ble_eq_true rfl)) dX6_one_70 ⟨Nat.zero_le _, Nat.zero_le _⟩) ?_
                  refine zrw (if_pos hpL) ?_
                  refine lv_iadd hx hb dX6_one_73 ?_
                  refine zrw (nI_add _ _) ?_
                  refine lv_bipush (v := nI 48) hx hb dX6_one_74 (by decide) ?_
                  refine lv_isub hx hb dX6_one_76 ?_
                  refine zrw (pk_sub (by omega)) ?_
                  refine lv_istore_n (lv' := [(2, .int (nI (((10 * v) + (T pv)) - 48))), (0, .ref h), (3, .int (nI i))]) hx hb dX6_one_77 rfl hl (by decide) rfl (fun ls hl => ?_)
                  refine lv_aload_n hx hb dX6_one_78 rfl (lv_at hl 1 rfl) ?_
                  refine lv_dup hx hb dX6_one_79 rfl ?_
                  refine va_get (ci := 6) (v := .int (nI pv)) (C := RX6) (T := TX6) (N := 20) hx hb hts hin6 hown hK hP 0 rfl rfl 5 (by decide) (hts (.fieldLink RX6 61 "UpAllRoundModel" "at" "I") (List.mem_of_getElem? (i := 1) rfl)) (fun _ h9 => h9) rfl dX6_one_80 ?_
                  refine lv_iconst (v := nI 1) hx hb dX6_one_83 (by decide) ?_
                  refine lv_iadd hx hb dX6_one_84 ?_
                  refine zrw (nI_add _ _) ?_
                  refine va_put (ci := 6) (v := .int (nI (pv + 1))) (ty := .int) (C := RX6) (T := TX6) (N := 20) hx hb hts hin6 tyX6 tyX6_ok nmX6 hown hK hP hD hS 0 rfl rfl 5 (by decide) (hts (.fieldLink RX6 61 "UpAllRoundModel" "at" "I") (List.mem_of_getElem? (i := 1) rfl)) (fun _ h9 => h9) rfl (by decide +kernel) rfl rfl (Nat.le_of_ble_eq_true rfl) dX6_one_85 (fun H locs hP hD hS => ?_)
                  have hP : va_P D vwCl [(h, .inr (6, [.ref m0, .ref m1, .ref m2, .int i3, .ref m4, .int (nI (pv + 1)), .int (nI 1), .int (nI c), .int (nI u), .ref m9, .ref m10, .ref m11, .int (nI tn), .ref m13, .int (nI sp), .int (nI pt), .ref m16, .ref m17, .ref m18, .ref m19])), (m0, .inl (cI, 380, .inl S)), (m9, .inl (cI, 124, .inl ST))] H := hP
                  have hD : va_D AA [(h, .inr (6, [.ref m0, .ref m1, .ref m2, .int i3, .ref m4, .int (nI (pv + 1)), .int (nI 1), .int (nI c), .int (nI u), .ref m9, .ref m10, .ref m11, .int (nI tn), .ref m13, .int (nI sp), .int (nI pt), .ref m16, .ref m17, .ref m18, .ref m19])), (m0, .inl (cI, 380, .inl S)), (m9, .inl (cI, 124, .inl ST))] := hD
                  refine lv_iinc (v := nI (i + 1)) (lv' := [(3, .int (nI (i + 1))), (2, .int (nI (((10 * v) + (T pv)) - 48))), (0, .ref h)]) hx hb dX6_one_88 hl (k := 2) rfl (nI_add _ _) (by decide) rfl (fun ls hl => ?_)
                  refine lv_goto (tgt := 46) hx hb dX6_one_91 (by decide) ?_
                  exact ih_46  (i + 1) ((pv + 1)) ((10 * v + T pv - 48)) (by omega) (by omega) (by rw [← hz, show 4 - i = (4 - (i + 1)) + 1 by omega, zNm_t ⟨by omega, hdg9⟩, show 10 * v + (T pv - 48) = 10 * v + T pv - 48 by omega]) (by omega) (by rw [Nat.pow_succ]; omega) ls (lv_sub hl [2, 1, 0] rfl) H locs hP hD hS
              · refine zcsE (va_runV (As := []) (rest := []) ⟨hx, hb, hml, hown, hts⟩ (c_X6_look l D cI cJ h m0 m1 m2 m4 m9 m10 m11 m13 m16 m17 m18 m19 i3 tn sp pt S ST L u T pv c 1 (by first | rfl | assumption | omega) (by first | rfl | assumption | omega) (by first | rfl | assumption | omega) (by first | rfl | assumption | omega) (by first | rfl | assumption | omega) (by omega) H.size) (cwV 0 hts gX6_one_X6_look rfl rfl rfl (by decide +kernel) ⟨Nat.le_of_ble_eq_true rfl, Nat.le_of_ble_eq_true rfl⟩) (zpV hK hN hZ hP hD hS hA [0, 1] rfl (by decide) 0 rfl rfl rfl) rfl rfl hl.1 rfl (lv_room (Nat.le_of_ble_eq_true rfl)) dX6_one_52 ⟨Nat.zero_le _, Nat.zero_le _⟩) ?_
                refine zrw (if_neg hpL) ?_
                refine lv_bipush (v := nI 48) hx hb dX6_one_55 (by decide) ?_
                refine lv_bipush (v := nI 57) hx hb dX6_one_57 (by decide) ?_
                refine zcsE (va_runS (As := [.int ((-1)), .int (nI 48), .int (nI 57)]) (rest := []) ⟨hx, hb, hml, hown, hts⟩ (d_X6_in l D cI cJ ((-1)) (nI 48) (nI 57) 48 57 (by decide) (by decide) H.size) (va_cwS 3 hts gX6_one_X6_in rfl rfl rfl (by decide +kernel) ⟨Nat.le_of_ble_eq_true rfl, Nat.le_of_ble_eq_true rfl⟩) (zpS hK hN hZ hP hD hS hA [] rfl (by decide)) rfl rfl hl.1 rfl (lv_room (Nat.le_of_ble_eq_true rfl)) dX6_one_59 ⟨Nat.zero_le _, Nat.zero_le _⟩) ?_
                refine lv_if_eq (tgt := 94) hx hb dX6_one_62 (by decide) (fun c62_41 => ?_) (fun c62_41 => ?_)
                · have c62_41 := bI_0.mp c62_41
                  have hfin : zNm T L 4 p 0 = (pv, v) := by rw [← hz]; rw [show 4 - i = (3 - i) + 1 by omega, zNm_f (fun h9 => absurd h9.1 (by omega))]
                  refine lv_aload_n hx hb dX6_one_94 rfl (lv_at hl 0 rfl) ?_
                  refine lv_iconst (v := nI 0) hx hb dX6_one_95 (by decide) ?_
                  refine lv_iload_n hx hb dX6_one_96 rfl (lv_at hl 1 rfl) ?_
                  refine zcv (wr := [(m0, .inl (cI, 380, .inl S))]) (va_runV (As := [.int (nI 0), .int (nI v)]) (rest := []) ⟨hx, hb, hml, hown, hts⟩ (c_X6_step1 l D cI cJ h m0 m1 m2 m4 m9 m10 m11 m13 m16 m17 m18 m19 i3 tn sp pt u pv 1 c ST 0 (nI v) (by omega) H.size) (cwV 2 hts gX6_one_X6_step1 rfl rfl rfl (by decide +kernel) ⟨Nat.le_of_ble_eq_true rfl, Nat.le_of_ble_eq_true rfl⟩) (zpV hK hN hZ hP hD hS hA [0, 2] rfl (by decide) 0 rfl rfl rfl) rfl rfl hl.1 rfl (lv_room (Nat.le_of_ble_eq_true rfl)) dX6_one_97 ⟨Nat.zero_le _, Nat.zero_le _⟩) hP hD hS hA [0, 2] [1] rfl rfl (by decide) (by decide) (fun w_43 H locs h_42 hP hD hS => ?_)
                  obtain rfl := h_42
                  have hP : va_P D vwCl [(m0, .inl (cI, 380, .inl S)), (h, .inr (6, [.ref m0, .ref m1, .ref m2, .int i3, .ref m4, .int (nI pv), .int (nI 1), .int (nI ((c + 1))), .int (nI u), .ref m9, .ref m10, .ref m11, .int (nI tn), .ref m13, .int (nI sp), .int (nI pt), .ref m16, .ref m17, .ref m18, .ref m19])), (m9, .inl (cI, 124, .inl ((upd (upd ST (2 * c) (nI 0)) (2 * c + 1) (nI v)))))] H := hP
                  have hD : va_D AA [(m0, .inl (cI, 380, .inl S)), (h, .inr (6, [.ref m0, .ref m1, .ref m2, .int i3, .ref m4, .int (nI pv), .int (nI 1), .int (nI ((c + 1))), .int (nI u), .ref m9, .ref m10, .ref m11, .int (nI tn), .ref m13, .int (nI sp), .int (nI pt), .ref m16, .ref m17, .ref m18, .ref m19])), (m9, .inl (cI, 124, .inl ((upd (upd ST (2 * c) (nI 0)) (2 * c + 1) (nI v)))))] := hD
                  refine lv_iconst (v := nI 1) hx hb dX6_one_100 (by decide) ?_
                  have hP := hP.sub (ws' := [(h, .inr (6, [.ref m0, .ref m1, .ref m2, .int i3, .ref m4, .int (nI pv), .int (nI 1), .int (nI ((c + 1))), .int (nI u), .ref m9, .ref m10, .ref m11, .int (nI tn), .ref m13, .int (nI sp), .int (nI pt), .ref m16, .ref m17, .ref m18, .ref m19])), (m0, .inl (cI, 380, .inl S)), (m9, .inl (cI, 124, .inl ((upd (upd ST (2 * c) (nI 0)) (2 * c + 1) (nI v)))))]) [1, 0, 2] rfl
                  have hD := hD.sub (ws' := [(h, .inr (6, [.ref m0, .ref m1, .ref m2, .int i3, .ref m4, .int (nI pv), .int (nI 1), .int (nI ((c + 1))), .int (nI u), .ref m9, .ref m10, .ref m11, .int (nI tn), .ref m13, .int (nI sp), .int (nI pt), .ref m16, .ref m17, .ref m18, .ref m19])), (m0, .inl (cI, 380, .inl S)), (m9, .inl (cI, 124, .inl ((upd (upd ST (2 * c) (nI 0)) (2 * c + 1) (nI v)))))]) [1, 0, 2] (by decide) rfl
                  exact hret hP hD hS dX6_one_101 rfl (by obtain ⟨e1, e2, e3⟩ := zq_d hR (by omega) hdg0; rw [hfin] at e2 e3; subst e1; subst e2; subst e3; exact ⟨_, _, _, show c + 1 ≤ _ from (by have h91 := zNm_4 (T := T) (L := L) (p := p) (by omega) hdg0; rw [hfin] at h91; omega), fun _ => ⟨rfl, rfl, rfl⟩, (bI_t rfl).symm, rfl⟩)
                · have c62_41 := bI_n0.mp c62_41
                  exact absurd c62_41 (by decide)
        exact L_46 (4 + 1) 0 p 0 (by omega) (by omega) rfl hp (by decide) ls (lv_sub hl [3, 1, 0] rfl) _ _ hP hD hS
    · have c10_1 := bI_nn0.mp c10_1
      rcases hnx : znx u (T p) with _ | j
      · exact absurd hnx c10_1
      have hj3 := (znx_ch hnx).2
      refine lv_aload_n hx hb dX6_one_13 rfl (lv_at hl 1 rfl) ?_
      refine lv_dup hx hb dX6_one_14 rfl ?_
      refine va_get (ci := 6) (v := .int (nI p)) (C := RX6) (T := TX6) (N := 20) hx hb hts hin6 hown hK hP 0 rfl rfl 5 (by decide) (hts (.fieldLink RX6 61 "UpAllRoundModel" "at" "I") (List.mem_of_getElem? (i := 1) rfl)) (fun _ h9 => h9) rfl dX6_one_15 ?_
      refine lv_iconst (v := nI 1) hx hb dX6_one_18 (by decide) ?_
      refine lv_iadd hx hb dX6_one_19 ?_
      refine zrw (nI_add _ _) ?_
      refine va_put (ci := 6) (v := .int (nI (p + 1))) (ty := .int) (C := RX6) (T := TX6) (N := 20) hx hb hts hin6 tyX6 tyX6_ok nmX6 hown hK hP hD hS 0 rfl rfl 5 (by decide) (hts (.fieldLink RX6 61 "UpAllRoundModel" "at" "I") (List.mem_of_getElem? (i := 1) rfl)) (fun _ h9 => h9) rfl (by decide +kernel) rfl rfl (Nat.le_of_ble_eq_true rfl) dX6_one_20 (fun H locs hP hD hS => ?_)
      have hP : va_P D vwCl [(h, .inr (6, [.ref m0, .ref m1, .ref m2, .int i3, .ref m4, .int (nI (p + 1)), .int (nI 1), .int (nI c), .int (nI u), .ref m9, .ref m10, .ref m11, .int (nI tn), .ref m13, .int (nI sp), .int (nI pt), .ref m16, .ref m17, .ref m18, .ref m19])), (m0, .inl (cI, 380, .inl S)), (m9, .inl (cI, 124, .inl ST))] H := hP
      have hD : va_D AA [(h, .inr (6, [.ref m0, .ref m1, .ref m2, .int i3, .ref m4, .int (nI (p + 1)), .int (nI 1), .int (nI c), .int (nI u), .ref m9, .ref m10, .ref m11, .int (nI tn), .ref m13, .int (nI sp), .int (nI pt), .ref m16, .ref m17, .ref m18, .ref m19])), (m0, .inl (cI, 380, .inl S)), (m9, .inl (cI, 124, .inl ST))] := hD
      refine lv_aload_n hx hb dX6_one_23 rfl (lv_at hl 1 rfl) ?_
      refine lv_iconst (v := nI 1) hx hb dX6_one_24 (by decide) ?_
      refine lv_iload_n hx hb dX6_one_25 rfl (lv_at hl 0 rfl) ?_
      refine zcv (wr := [(m0, .inl (cI, 380, .inl S))]) (va_runV (As := [.int (nI 1), .int (nI (T p))]) (rest := []) ⟨hx, hb, hml, hown, hts⟩ (c_X6_step1 l D cI cJ h m0 m1 m2 m4 m9 m10 m11 m13 m16 m17 m18 m19 i3 tn sp pt u (p + 1) 1 c ST 1 (nI (T p)) (by omega) H.size) (cwV 2 hts gX6_one_X6_step1 rfl rfl rfl (by decide +kernel) ⟨Nat.le_of_ble_eq_true rfl, Nat.le_of_ble_eq_true rfl⟩) (zpV hK hN hZ hP hD hS hA [0, 2] rfl (by decide) 0 rfl rfl rfl) rfl rfl hl.1 rfl (lv_room (Nat.le_of_ble_eq_true rfl)) dX6_one_26 ⟨Nat.zero_le _, Nat.zero_le _⟩) hP hD hS hA [0, 2] [1] rfl rfl (by decide) (by decide) (fun w_45 H locs h_44 hP hD hS => ?_)
      obtain rfl := h_44
      have hP : va_P D vwCl [(m0, .inl (cI, 380, .inl S)), (h, .inr (6, [.ref m0, .ref m1, .ref m2, .int i3, .ref m4, .int (nI ((p + 1))), .int (nI 1), .int (nI ((c + 1))), .int (nI u), .ref m9, .ref m10, .ref m11, .int (nI tn), .ref m13, .int (nI sp), .int (nI pt), .ref m16, .ref m17, .ref m18, .ref m19])), (m9, .inl (cI, 124, .inl ((upd (upd ST (2 * c) (nI 1)) (2 * c + 1) (nI (T p))))))] H := hP
      have hD : va_D AA [(m0, .inl (cI, 380, .inl S)), (h, .inr (6, [.ref m0, .ref m1, .ref m2, .int i3, .ref m4, .int (nI ((p + 1))), .int (nI 1), .int (nI ((c + 1))), .int (nI u), .ref m9, .ref m10, .ref m11, .int (nI tn), .ref m13, .int (nI sp), .int (nI pt), .ref m16, .ref m17, .ref m18, .ref m19])), (m9, .inl (cI, 124, .inl ((upd (upd ST (2 * c) (nI 1)) (2 * c + 1) (nI (T p))))))] := hD
      refine lv_iconst (v := nI 1) hx hb dX6_one_29 (by decide) ?_
      have hP := hP.sub (ws' := [(h, .inr (6, [.ref m0, .ref m1, .ref m2, .int i3, .ref m4, .int (nI ((p + 1))), .int (nI 1), .int (nI ((c + 1))), .int (nI u), .ref m9, .ref m10, .ref m11, .int (nI tn), .ref m13, .int (nI sp), .int (nI pt), .ref m16, .ref m17, .ref m18, .ref m19])), (m0, .inl (cI, 380, .inl S)), (m9, .inl (cI, 124, .inl ((upd (upd ST (2 * c) (nI 1)) (2 * c + 1) (nI (T p))))))]) [1, 0, 2] rfl
      have hD := hD.sub (ws' := [(h, .inr (6, [.ref m0, .ref m1, .ref m2, .int i3, .ref m4, .int (nI ((p + 1))), .int (nI 1), .int (nI ((c + 1))), .int (nI u), .ref m9, .ref m10, .ref m11, .int (nI tn), .ref m13, .int (nI sp), .int (nI pt), .ref m16, .ref m17, .ref m18, .ref m19])), (m0, .inl (cI, 380, .inl S)), (m9, .inl (cI, 124, .inl ((upd (upd ST (2 * c) (nI 1)) (2 * c + 1) (nI (T p))))))]) [1, 0, 2] (by decide) rfl
      exact hret hP hD hS dX6_one_30 rfl (by obtain ⟨e1, e2, e3⟩ := zq_n hR (by omega) (znx_dg hnx) hnx; subst e1; subst e2; subst e3; exact ⟨_, _, _, show c + 1 ≤ p + 1 from (by omega), fun _ => ⟨rfl, (by rw [← (znx_ch hnx).1] <;> rfl), rfl⟩, (bI_t rfl).symm, rfl⟩)
  · refine zcsE (va_runV (As := []) (rest := []) ⟨hx, hb, hml, hown, hts⟩ (c_X6_look l D cI cJ h m0 m1 m2 m4 m9 m10 m11 m13 m16 m17 m18 m19 i3 tn sp pt S ST L u T p c 1 (by first | rfl | assumption | omega) (by first | rfl | assumption | omega) (by first | rfl | assumption | omega) (by first | rfl | assumption | omega) (by first | rfl | assumption | omega) (by omega) s.heap.size) (cwV 0 hts gX6_one_X6_look rfl rfl rfl (by decide +kernel) ⟨Nat.le_of_ble_eq_true rfl, Nat.le_of_ble_eq_true rfl⟩) (zpV hK hN hZ hP hD hS hA [0, 1] rfl (by decide) 0 rfl rfl rfl) rfl rfl hl.1 rfl (lv_room (Nat.le_of_ble_eq_true rfl)) dX6_one_1 ⟨Nat.zero_le _, Nat.zero_le _⟩) ?_
    refine zrw (if_neg hpL) ?_
    refine lv_istore_n (lv' := [(1, .int ((-1))), (0, .ref h)]) hx hb dX6_one_4 rfl hl (by decide) rfl (fun ls hl => ?_)
    refine lv_aload_n hx hb dX6_one_5 rfl (lv_at hl 1 rfl) ?_
    refine lv_iload_n hx hb dX6_one_6 rfl (lv_at hl 0 rfl) ?_
    refine zcsE (va_runV (As := [.int ((-1))]) (rest := []) ⟨hx, hb, hml, hown, hts⟩ (c_X6_isName_o l D cI cJ h m0 m1 m2 m4 m9 m10 m11 m13 m16 m17 m18 m19 i3 tn sp pt u p 1 c (by first | rfl | assumption | omega) s.heap.size) (cwV 1 hts gX6_one_X6_isName rfl rfl rfl (by decide +kernel) ⟨Nat.le_of_ble_eq_true rfl, Nat.le_of_ble_eq_true rfl⟩) (zpV hK hN hZ hP hD hS hA [0] rfl (by decide) 0 rfl rfl rfl) rfl rfl hl.1 rfl (lv_room (Nat.le_of_ble_eq_true rfl)) dX6_one_7 ⟨Nat.zero_le _, Nat.zero_le _⟩) ?_
    refine lv_if_eq (tgt := 31) hx hb dX6_one_10 (by decide) (fun c10_46 => ?_) (fun c10_46 => ?_)
    · have c10_46 : 0 = 0 := (nI_eq (a := 0) (b := 0) (by omega) (by omega)).mp c10_46
      refine lv_iload_n hx hb dX6_one_31 rfl (lv_at hl 0 rfl) ?_
      refine lv_bipush (v := nI 48) hx hb dX6_one_32 (by decide) ?_
      refine lv_bipush (v := nI 57) hx hb dX6_one_34 (by decide) ?_
      refine zcsE (va_runS (As := [.int ((-1)), .int (nI 48), .int (nI 57)]) (rest := []) ⟨hx, hb, hml, hown, hts⟩ (d_X6_in l D cI cJ ((-1)) (nI 48) (nI 57) 48 57 (by decide) (by decide) s.heap.size) (va_cwS 3 hts gX6_one_X6_in rfl rfl rfl (by decide +kernel) ⟨Nat.le_of_ble_eq_true rfl, Nat.le_of_ble_eq_true rfl⟩) (zpS hK hN hZ hP hD hS hA [] rfl (by decide)) rfl rfl hl.1 rfl (lv_room (Nat.le_of_ble_eq_true rfl)) dX6_one_36 ⟨Nat.zero_le _, Nat.zero_le _⟩) ?_
      refine lv_if_eq (tgt := 102) hx hb dX6_one_39 (by decide) (fun c39_47 => ?_) (fun c39_47 => ?_)
      · have c39_47 := bI_0.mp c39_47
        refine lv_iload_n hx hb dX6_one_102 rfl (lv_at hl 0 rfl) ?_
        refine lv_bipush (v := nI 33) hx hb dX6_one_103 (by decide) ?_
        refine lv_icmp_ne (tgt := 142) hx hb dX6_one_105 (by decide) (fun c105_48 => ?_) (fun c105_48 => ?_)
        · refine lv_iload_n hx hb dX6_one_142 rfl (lv_at hl 0 rfl) ?_
          refine lv_bipush (v := nI 40) hx hb dX6_one_143 (by decide) ?_
          refine lv_icmp_ne (tgt := 171) hx hb dX6_one_145 (by decide) (fun c145_49 => ?_) (fun c145_49 => ?_)
          · refine lv_iconst (v := nI 0) hx hb dX6_one_171 (by decide) ?_
            exact hret hP hD hS dX6_one_172 rfl (by obtain ⟨e1, e2⟩ := zq_o hR (by omega); subst e1; subst e2; exact ⟨_, _, _, hcp, fun h9 => (by cases h9), (bI_f (by decide)).symm, rfl⟩)
          · exact absurd c145_49 (by decide)
        · exact absurd c105_48 (by decide)
      · have c39_47 := bI_n0.mp c39_47
        exact absurd c39_47 (by decide)
    · have c10_46 : ¬ (0 = 0) := fun h9 => c10_46 ((nI_eq (a := 0) (b := 0) (by omega) (by omega)).mpr h9)
      exact absurd c10_46 (by omega)
set_option maxHeartbeats 4000000 in
set_option maxRecDepth 100000 in
theorem c_X6_product_1 (l : Launch) (D : va_G) (cI cJ : ClassId) (h : Nat) (m0 : Nat) (m1 : Nat) (m2 : Nat) (m4 : Nat) (m9 : Nat) (m10 : Nat) (m11 : Nat) (m13 : Nat) (m16 : Nat) (m17 : Nat) (m18 : Nat) (m19 : Nat) (i3 : Int32) (tn : Nat) (sp : Nat) (pt : Nat) (S : Nat → Int32) (ST : Nat → Int32) (L : Nat) (u : Nat) (T : Nat → Nat) (p : Nat) (c : Nat) (b : Bool) (q : Nat) (tl : zTks) (hL : L ≤ 60) (hu1 : u ≤ 1) (hT : ∀ i, i < L → T i < 256) (htb : ∀ i, i < L → S (296 + i) = nI (T i)) (hS4 : S 4 = nI L) (hp : p ≤ L) (hcp : c ≤ p) (hR : zLS T L (zQ T L u 4) 1 p = (b, q, tl)) : zMi l yX6_product wsX6_product ({ frames := 26, cells := 0, slots := 0, locals := 549 } : Room) D [(cI, .int), (cJ, .array .int)] [.ref h] [(h, .inr (6, [.ref m0, .ref m1, .ref m2, .int i3, .ref m4, .int (nI p), .int (nI 1), .int (nI c), .int (nI u), .ref m9, .ref m10, .ref m11, .int (nI tn), .ref m13, .int (nI sp), .int (nI pt), .ref m16, .ref m17, .ref m18, .ref m19])), (m0, .inl (cI, 380, .inl S)), (m9, .inl (cI, 124, .inl ST))] (fun r w => ∃ (c9 o9 : Nat) (ST9 : Nat → Int32), c9 ≤ q ∧ (b = true → c9 = c + tl.length ∧ ST9 = zap2 u ST c tl ∧ o9 = 1) ∧ r = bI (b = true) ∧ w = [(h, .inr (6, [.ref m0, .ref m1, .ref m2, .int i3, .ref m4, .int (nI q), .int (nI o9), .int (nI c9), .int (nI u), .ref m9, .ref m10, .ref m11, .int (nI tn), .ref m13, .int (nI sp), .int (nI pt), .ref m16, .ref m17, .ref m18, .ref m19])), (m0, .inl (cI, 380, .inl S)), (m9, .inl (cI, 124, .inl ST9))]) := by
  refine zMi.start (cc := cX6_product) (maxL := 2) (rt := .boolean) (by first | decide | decide +kernel) rfl (Nat.le_of_ble_eq_true rfl) ?_
  intro pg ev s mt args below meth cd ls AA QQ ⟨hx, hb, hml, hr, hlocks, hown, hts, hK, hN, hZ, hP, hD, hA, hS, hl⟩ hret
  have hown : s.vm.findClass RX6 = some mt.cls := hown
  have hl : lv_has ls 2 [(0, .ref h)] := hl
  have hin6 : ∀ w ∈ wsX60, w ∈ wsX6_product := fun w h => List.mem_cons_of_mem _ (List.mem_append_right _ (h))
  have hR : zLv T L 4 (zLS T L (zQ T L u 4) 0) p = (b, q, tl) := hR
  obtain ⟨b1, q1, t1, hR1⟩ : ∃ (b0 : Bool) (q0 : Nat) (t0 : zTks), zLS T L (zQ T L u 4) 0 p = (b0, q0, t0) := ⟨_, _, _, rfl⟩
  have hg1 := (zLS_gd (T := T) (zQ_gd (T := T) (L := L) (u := u) 4) 0) p (by omega)
  rw [hR1] at hg1
  obtain ⟨hga1, hgb1, hgc1⟩ : p ≤ q1 ∧ q1 ≤ L ∧ (b1 = true → p < q1 ∧ t1.length ≤ q1 - p ∧ zw1 t1) := hg1
  refine lv_aload_n hx hb dX6_product_0 rfl (lv_at hl 0 rfl) ?_
  refine zci (wr := []) (va_runV (As := []) (rest := []) ⟨hx, hb, hml, hown, hts⟩ (c_X6_one_1 l D cI cJ h m0 m1 m2 m4 m9 m10 m11 m13 m16 m17 m18 m19 i3 tn sp pt S ST L u T p c b1 q1 t1 (by first | rfl | assumption | omega) (by first | rfl | assumption | omega) (by first | rfl | assumption | omega) (by first | rfl | assumption | omega) (by first | rfl | assumption | omega) (by first | rfl | assumption | omega) (by first | rfl | assumption | omega) hR1 s.heap.size) (cwV 0 hts gX6_product_X6_one rfl rfl rfl (by decide +kernel) ⟨Nat.le_of_ble_eq_true rfl, Nat.le_of_ble_eq_true rfl⟩) (zpV hK hN hZ hP hD hS hA [0, 1, 2] rfl (by decide) 0 rfl rfl rfl) rfl rfl hl.1 rfl (lv_room (Nat.le_of_ble_eq_true rfl)) dX6_product_1 ⟨Nat.zero_le _, Nat.zero_le _⟩) hP hD hS hA [0, 1, 2] [] rfl rfl (by decide) (by decide) (fun r_3 w_2 H locs h_1 hP hD hS => ?_)
  obtain ⟨c9_4, o9_5, ST9_6, hq9_7, hx9_8, rfl, rfl⟩ := h_1
  have hP : va_P D vwCl [(h, .inr (6, [.ref m0, .ref m1, .ref m2, .int i3, .ref m4, .int (nI q1), .int (nI o9_5), .int (nI c9_4), .int (nI u), .ref m9, .ref m10, .ref m11, .int (nI tn), .ref m13, .int (nI sp), .int (nI pt), .ref m16, .ref m17, .ref m18, .ref m19])), (m0, .inl (cI, 380, .inl S)), (m9, .inl (cI, 124, .inl ST9_6))] H := hP
  have hD : va_D AA [(h, .inr (6, [.ref m0, .ref m1, .ref m2, .int i3, .ref m4, .int (nI q1), .int (nI o9_5), .int (nI c9_4), .int (nI u), .ref m9, .ref m10, .ref m11, .int (nI tn), .ref m13, .int (nI sp), .int (nI pt), .ref m16, .ref m17, .ref m18, .ref m19])), (m0, .inl (cI, 380, .inl S)), (m9, .inl (cI, 124, .inl ST9_6))] := hD
  refine lv_if_ne (tgt := 9) hx hb dX6_product_4 (by decide) (fun c4_9 => ?_) (fun c4_9 => ?_)
  · have c4_9 := bI_n0.mp c4_9
    obtain ⟨hgd1, hge1, hgf1⟩ := hgc1 c4_9
    obtain ⟨he1, hE1, ho1⟩ := hx9_8 c4_9
    subst he1; subst hE1; subst ho1
    have hz := zLv_tt hR hR1 c4_9
    have L_9 : ∀ (fu : Nat) (f : Nat) (pv : Nat) (ta : zTks) (hn : f < fu) (hz : zct ta (zLp T L 4 (zLS T L (zQ T L u 4) 0) f pv) = (b, q, tl)) (hf : L - pv < f) (hpv : pv ≤ L) (hca : c + ta.length ≤ pv), ∀ (ls : Array Slot), lv_has ls 2 [(0, .ref h)] → ∀ (H : Heap) (locs : List Loc), va_P D vwCl [(h, .inr (6, [.ref m0, .ref m1, .ref m2, .int i3, .ref m4, .int (nI pv), .int (nI 1), .int (nI ((c + ta.length))), .int (nI u), .ref m9, .ref m10, .ref m11, .int (nI tn), .ref m13, .int (nI sp), .int (nI pt), .ref m16, .ref m17, .ref m18, .ref m19])), (m0, .inl (cI, 380, .inl S)), (m9, .inl (cI, 124, .inl (zap2 u ST c ta)))] H → va_D AA [(h, .inr (6, [.ref m0, .ref m1, .ref m2, .int i3, .ref m4, .int (nI pv), .int (nI 1), .int (nI ((c + ta.length))), .int (nI u), .ref m9, .ref m10, .ref m11, .int (nI tn), .ref m13, .int (nI sp), .int (nI pt), .ref m16, .ref m17, .ref m18, .ref m19])), (m0, .inl (cI, 380, .inl S)), (m9, .inl (cI, 124, .inl (zap2 u ST c ta)))] → va_S AA s.heap H locs → W pg l ev ({ frames := 26, cells := 0, slots := 0, locals := 549 } : Room) s mt args below meth cd H locs 0 0 QQ (F0 mt 9 ls []) := by
      intro fu
      induction fu with
      | zero =>
        intro  f pv ta  hn
        exact absurd hn (by omega)
      | succ fu ih_9 =>
        intro  f pv ta  hn hz hf hpv hca ls hl H locs hP hD hS
        obtain ⟨f1, rfl⟩ : ∃ f1, f = f1 + 1 := ⟨f - 1, by omega⟩
        refine lv_aload_n hx hb dX6_product_9 rfl (lv_at hl 0 rfl) ?_
        by_cases hpL : pv < L
        · refine zcsE (va_runV (As := []) (rest := []) ⟨hx, hb, hml, hown, hts⟩ (c_X6_look l D cI cJ h m0 m1 m2 m4 m9 m10 m11 m13 m16 m17 m18 m19 i3 tn sp pt S ST L u T pv ((c + ta.length)) 1 (by first | rfl | assumption | omega) (by first | rfl | assumption | omega) (by first | rfl | assumption | omega) (by first | rfl | assumption | omega) (by first | rfl | assumption | omega) (by omega) H.size) (cwV 0 hts gX6_product_X6_look rfl rfl rfl (by decide +kernel) ⟨Nat.le_of_ble_eq_true rfl, Nat.le_of_ble_eq_true rfl⟩) (zpV hK hN hZ hP hD hS hA [0, 1] rfl (by decide) 0 rfl rfl rfl) rfl rfl hl.1 rfl (lv_room (Nat.le_of_ble_eq_true rfl)) dX6_product_10 ⟨Nat.zero_le _, Nat.zero_le _⟩) ?_
          refine zrw (if_pos hpL) ?_
          refine lv_bipush (v := nI 42) hx hb dX6_product_13 (by decide) ?_
          refine lv_icmp_eq (tgt := 36) hx hb dX6_product_15 (by decide) (fun c15_10 => ?_) (fun c15_10 => ?_)
          · have c15_10 : (T pv) = 42 := (nI_eq (a := T pv) (b := 42) (by have h91 := hT pv (by omega); omega) (by have h91 := hT pv (by omega); omega)).mp c15_10
            refine lv_aload_n hx hb dX6_product_36 rfl (lv_at hl 0 rfl) ?_
            refine zcsE (va_runV (As := []) (rest := []) ⟨hx, hb, hml, hown, hts⟩ (c_X6_look l D cI cJ h m0 m1 m2 m4 m9 m10 m11 m13 m16 m17 m18 m19 i3 tn sp pt S ST L u T pv ((c + ta.length)) 1 (by first | rfl | assumption | omega) (by first | rfl | assumption | omega) (by first | rfl | assumption | omega) (by first | rfl | assumption | omega) (by first | rfl | assumption | omega) (by omega) H.size) (cwV 0 hts gX6_product_X6_look rfl rfl rfl (by decide +kernel) ⟨Nat.le_of_ble_eq_true rfl, Nat.le_of_ble_eq_true rfl⟩) (zpV hK hN hZ hP hD hS hA [0, 1] rfl (by decide) 0 rfl rfl rfl) rfl rfl hl.1 rfl (lv_room (Nat.le_of_ble_eq_true rfl)) dX6_product_37 ⟨Nat.zero_le _, Nat.zero_le _⟩) ?_
            refine zrw (if_pos hpL) ?_
            refine lv_istore_n (lv' := [(1, .int (nI (T pv))), (0, .ref h)]) hx hb dX6_product_40 rfl hl (by decide) rfl (fun ls hl => ?_)
            refine lv_aload_n hx hb dX6_product_41 rfl (lv_at hl 1 rfl) ?_
            refine lv_dup hx hb dX6_product_42 rfl ?_
            refine va_get (ci := 6) (v := .int (nI pv)) (C := RX6) (T := TX6) (N := 20) hx hb hts hin6 hown hK hP 0 rfl rfl 5 (by decide) (hts (.fieldLink RX6 61 "UpAllRoundModel" "at" "I") (List.mem_of_getElem? (i := 1) rfl)) (fun _ h9 => h9) rfl dX6_product_43 ?_
            refine lv_iconst (v := nI 1) hx hb dX6_product_46 (by decide) ?_
            refine lv_iadd hx hb dX6_product_47 ?_
            refine zrw (nI_add _ _) ?_
            refine va_put (ci := 6) (v := .int (nI (pv + 1))) (ty := .int) (C := RX6) (T := TX6) (N := 20) hx hb hts hin6 tyX6 tyX6_ok nmX6 hown hK hP hD hS 0 rfl rfl 5 (by decide) (hts (.fieldLink RX6 61 "UpAllRoundModel" "at" "I") (List.mem_of_getElem? (i := 1) rfl)) (fun _ h9 => h9) rfl (by decide +kernel) rfl rfl (Nat.le_of_ble_eq_true rfl) dX6_product_48 (fun H locs hP hD hS => ?_)
            have hP : va_P D vwCl [(h, .inr (6, [.ref m0, .ref m1, .ref m2, .int i3, .ref m4, .int (nI (pv + 1)), .int (nI 1), .int (nI ((c + ta.length))), .int (nI u), .ref m9, .ref m10, .ref m11, .int (nI tn), .ref m13, .int (nI sp), .int (nI pt), .ref m16, .ref m17, .ref m18, .ref m19])), (m0, .inl (cI, 380, .inl S)), (m9, .inl (cI, 124, .inl (zap2 u ST c ta)))] H := hP
            have hD : va_D AA [(h, .inr (6, [.ref m0, .ref m1, .ref m2, .int i3, .ref m4, .int (nI (pv + 1)), .int (nI 1), .int (nI ((c + ta.length))), .int (nI u), .ref m9, .ref m10, .ref m11, .int (nI tn), .ref m13, .int (nI sp), .int (nI pt), .ref m16, .ref m17, .ref m18, .ref m19])), (m0, .inl (cI, 380, .inl S)), (m9, .inl (cI, 124, .inl (zap2 u ST c ta)))] := hD
            refine lv_aload_n hx hb dX6_product_51 rfl (lv_at hl 1 rfl) ?_
            obtain ⟨b2, q2, t2, hR2⟩ : ∃ (b0 : Bool) (q0 : Nat) (t0 : zTks), zLS T L (zQ T L u 4) 0 (pv + 1) = (b0, q0, t0) := ⟨_, _, _, rfl⟩
            have hg2 := (zLS_gd (T := T) (zQ_gd (T := T) (L := L) (u := u) 4) 0) (pv + 1) (by omega)
            rw [hR2] at hg2
            obtain ⟨hga2, hgb2, hgc2⟩ : (pv + 1) ≤ q2 ∧ q2 ≤ L ∧ (b2 = true → (pv + 1) < q2 ∧ t2.length ≤ q2 - (pv + 1) ∧ zw1 t2) := hg2
            refine zci (wr := []) (va_runV (As := []) (rest := []) ⟨hx, hb, hml, hown, hts⟩ (c_X6_one_1 l D cI cJ h m0 m1 m2 m4 m9 m10 m11 m13 m16 m17 m18 m19 i3 tn sp pt S (zap2 u ST c ta) L u T (pv + 1) ((c + ta.length)) b2 q2 t2 (by first | rfl | assumption | omega) (by first | rfl | assumption | omega) (by first | rfl | assumption | omega) (by first | rfl | assumption | omega) (by first | rfl | assumption | omega) (by omega) (by omega) hR2 H.size) (cwV 0 hts gX6_product_X6_one rfl rfl rfl (by decide +kernel) ⟨Nat.le_of_ble_eq_true rfl, Nat.le_of_ble_eq_true rfl⟩) (zpV hK hN hZ hP hD hS hA [0, 1, 2] rfl (by decide) 0 rfl rfl rfl) rfl rfl hl.1 rfl (lv_room (Nat.le_of_ble_eq_true rfl)) dX6_product_52 ⟨Nat.zero_le _, Nat.zero_le _⟩) hP hD hS hA [0, 1, 2] [] rfl rfl (by decide) (by decide) (fun r_13 w_12 H locs h_11 hP hD hS => ?_)
            obtain ⟨c9_14, o9_15, ST9_16, hq9_17, hx9_18, rfl, rfl⟩ := h_11
            have hP : va_P D vwCl [(h, .inr (6, [.ref m0, .ref m1, .ref m2, .int i3, .ref m4, .int (nI q2), .int (nI o9_15), .int (nI c9_14), .int (nI u), .ref m9, .ref m10, .ref m11, .int (nI tn), .ref m13, .int (nI sp), .int (nI pt), .ref m16, .ref m17, .ref m18, .ref m19])), (m0, .inl (cI, 380, .inl S)), (m9, .inl (cI, 124, .inl ST9_16))] H := hP
            have hD : va_D AA [(h, .inr (6, [.ref m0, .ref m1, .ref m2, .int i3, .ref m4, .int (nI q2), .int (nI o9_15), .int (nI c9_14), .int (nI u), .ref m9, .ref m10, .ref m11, .int (nI tn), .ref m13, .int (nI sp), .int (nI pt), .ref m16, .ref m17, .ref m18, .ref m19])), (m0, .inl (cI, 380, .inl S)), (m9, .inl (cI, 124, .inl ST9_16))] := hD
            refine lv_if_ne (tgt := 60) hx hb dX6_product_55 (by decide) (fun c55_19 => ?_) (fun c55_19 => ?_)
            · have c55_19 := bI_n0.mp c55_19
              obtain ⟨hgd2, hge2, hgf2⟩ := hgc2 c55_19
              obtain ⟨he2, hE2, ho2⟩ := hx9_18 c55_19
              subst he2; subst hE2; subst ho2
              refine lv_aload_n hx hb dX6_product_60 rfl (lv_at hl 1 rfl) ?_
              refine lv_iconst (v := nI 3) hx hb dX6_product_61 (by decide) ?_
              refine lv_iload_n hx hb dX6_product_62 rfl (lv_at hl 0 rfl) ?_
              refine zcv (wr := [(m0, .inl (cI, 380, .inl S))]) (va_runV (As := [.int (nI 3), .int (nI (T pv))]) (rest := []) ⟨hx, hb, hml, hown, hts⟩ (c_X6_step1 l D cI cJ h m0 m1 m2 m4 m9 m10 m11 m13 m16 m17 m18 m19 i3 tn sp pt u q2 1 ((c + ta.length + t2.length)) (zap2 u (zap2 u ST c ta) (c + ta.length) t2) 3 (nI (T pv)) (by omega) H.size) (cwV 2 hts gX6_product_X6_step1 rfl rfl rfl (by decide +kernel) ⟨Nat.le_of_ble_eq_true rfl, Nat.le_of_ble_eq_true rfl⟩) (zpV hK hN hZ hP hD hS hA [0, 2] rfl (by decide) 0 rfl rfl rfl) rfl rfl hl.1 rfl (lv_room (Nat.le_of_ble_eq_true rfl)) dX6_product_63 ⟨Nat.zero_le _, Nat.zero_le _⟩) hP hD hS hA [0, 2] [1] rfl rfl (by decide) (by decide) (fun w_21 H locs h_20 hP hD hS => ?_)
              obtain rfl := h_20
              have hP : va_P D vwCl [(m0, .inl (cI, 380, .inl S)), (h, .inr (6, [.ref m0, .ref m1, .ref m2, .int i3, .ref m4, .int (nI q2), .int (nI 1), .int (nI ((((c + ta.length + t2.length)) + 1))), .int (nI u), .ref m9, .ref m10, .ref m11, .int (nI tn), .ref m13, .int (nI sp), .int (nI pt), .ref m16, .ref m17, .ref m18, .ref m19])), (m9, .inl (cI, 124, .inl ((upd (upd (zap2 u (zap2 u ST c ta) (c + ta.length) t2) (2 * ((c + ta.length + t2.length))) (nI 3)) (2 * ((c + ta.length + t2.length)) + 1) (nI (T pv))))))] H := hP
              have hD : va_D AA [(m0, .inl (cI, 380, .inl S)), (h, .inr (6, [.ref m0, .ref m1, .ref m2, .int i3, .ref m4, .int (nI q2), .int (nI 1), .int (nI ((((c + ta.length + t2.length)) + 1))), .int (nI u), .ref m9, .ref m10, .ref m11, .int (nI tn), .ref m13, .int (nI sp), .int (nI pt), .ref m16, .ref m17, .ref m18, .ref m19])), (m9, .inl (cI, 124, .inl ((upd (upd (zap2 u (zap2 u ST c ta) (c + ta.length) t2) (2 * ((c + ta.length + t2.length))) (nI 3)) (2 * ((c + ta.length + t2.length)) + 1) (nI (T pv))))))] := hD
              refine lv_goto (tgt := 9) hx hb dX6_product_66 (by decide) ?_
              rw [zap23, zlen1 (t := (3, T pv))] at hP hD
              exact ih_9   f1 q2 ((ta ++ (t2 ++ [(3, T pv)]))) (by omega) (zLt (by decide) hz ⟨by omega, zlv_4.mpr (by omega)⟩ hR2 (by assumption)) (by omega) (by omega) (by rw [← zlen1]; omega) ls (lv_sub hl [1] rfl) H locs (hP.sub [1, 0, 2] rfl) (hD.sub [1, 0, 2] (by decide) rfl) hS
            · have c55_19 := bI_0.mp c55_19
              refine lv_iconst (v := nI 0) hx hb dX6_product_58 (by decide) ?_
              exact hret hP hD hS dX6_product_59 rfl (by obtain ⟨e1, e2⟩ := zLf hz ⟨by omega, zlv_4.mpr (by omega)⟩ hR2 (by assumption); subst e1; subst e2; exact ⟨_, _, _, hq9_17, fun h9 => (by cases h9), (bI_f (by decide)).symm, rfl⟩)
          · have c15_10 : ¬ ((T pv) = 42) := fun h9 => c15_10 ((nI_eq (a := T pv) (b := 42) (by have h91 := hT pv (by omega); omega) (by have h91 := hT pv (by omega); omega)).mpr h9)
            refine lv_aload_n hx hb dX6_product_18 rfl (lv_at hl 0 rfl) ?_
            refine zcsE (va_runV (As := []) (rest := []) ⟨hx, hb, hml, hown, hts⟩ (c_X6_look l D cI cJ h m0 m1 m2 m4 m9 m10 m11 m13 m16 m17 m18 m19 i3 tn sp pt S ST L u T pv ((c + ta.length)) 1 (by first | rfl | assumption | omega) (by first | rfl | assumption | omega) (by first | rfl | assumption | omega) (by first | rfl | assumption | omega) (by first | rfl | assumption | omega) (by omega) H.size) (cwV 0 hts gX6_product_X6_look rfl rfl rfl (by decide +kernel) ⟨Nat.le_of_ble_eq_true rfl, Nat.le_of_ble_eq_true rfl⟩) (zpV hK hN hZ hP hD hS hA [0, 1] rfl (by decide) 0 rfl rfl rfl) rfl rfl hl.1 rfl (lv_room (Nat.le_of_ble_eq_true rfl)) dX6_product_19 ⟨Nat.zero_le _, Nat.zero_le _⟩) ?_
            refine zrw (if_pos hpL) ?_
            refine lv_bipush (v := nI 47) hx hb dX6_product_22 (by decide) ?_
            refine lv_icmp_eq (tgt := 36) hx hb dX6_product_24 (by decide) (fun c24_22 => ?_) (fun c24_22 => ?_)
            · have c24_22 : (T pv) = 47 := (nI_eq (a := T pv) (b := 47) (by have h91 := hT pv (by omega); omega) (by have h91 := hT pv (by omega); omega)).mp c24_22
              refine lv_aload_n hx hb dX6_product_36 rfl (lv_at hl 0 rfl) ?_
              refine zcsE (va_runV (As := []) (rest := []) ⟨hx, hb, hml, hown, hts⟩ (c_X6_look l D cI cJ h m0 m1 m2 m4 m9 m10 m11 m13 m16 m17 m18 m19 i3 tn sp pt S ST L u T pv ((c + ta.length)) 1 (by first | rfl | assumption | omega) (by first | rfl | assumption | omega) (by first | rfl | assumption | omega) (by first | rfl | assumption | omega) (by first | rfl | assumption | omega) (by omega) H.size) (cwV 0 hts gX6_product_X6_look rfl rfl rfl (by decide +kernel) ⟨Nat.le_of_ble_eq_true rfl, Nat.le_of_ble_eq_true rfl⟩) (zpV hK hN hZ hP hD hS hA [0, 1] rfl (by decide) 0 rfl rfl rfl) rfl rfl hl.1 rfl (lv_room (Nat.le_of_ble_eq_true rfl)) dX6_product_37 ⟨Nat.zero_le _, Nat.zero_le _⟩) ?_
              refine zrw (if_pos hpL) ?_
              refine lv_istore_n (lv' := [(1, .int (nI (T pv))), (0, .ref h)]) hx hb dX6_product_40 rfl hl (by decide) rfl (fun ls hl => ?_)
              refine lv_aload_n hx hb dX6_product_41 rfl (lv_at hl 1 rfl) ?_
              refine lv_dup hx hb dX6_product_42 rfl ?_
              refine va_get (ci := 6) (v := .int (nI pv)) (C := RX6) (T := TX6) (N := 20) hx hb hts hin6 hown hK hP 0 rfl rfl 5 (by decide) (hts (.fieldLink RX6 61 "UpAllRoundModel" "at" "I") (List.mem_of_getElem? (i := 1) rfl)) (fun _ h9 => h9) rfl dX6_product_43 ?_
              refine lv_iconst (v := nI 1) hx hb dX6_product_46 (by decide) ?_
              refine lv_iadd hx hb dX6_product_47 ?_
              refine zrw (nI_add _ _) ?_
              refine va_put (ci := 6) (v := .int (nI (pv + 1))) (ty := .int) (C := RX6) (T := TX6) (N := 20) hx hb hts hin6 tyX6 tyX6_ok nmX6 hown hK hP hD hS 0 rfl rfl 5 (by decide) (hts (.fieldLink RX6 61 "UpAllRoundModel" "at" "I") (List.mem_of_getElem? (i := 1) rfl)) (fun _ h9 => h9) rfl (by decide +kernel) rfl rfl (Nat.le_of_ble_eq_true rfl) dX6_product_48 (fun H locs hP hD hS => ?_)
              have hP : va_P D vwCl [(h, .inr (6, [.ref m0, .ref m1, .ref m2, .int i3, .ref m4, .int (nI (pv + 1)), .int (nI 1), .int (nI ((c + ta.length))), .int (nI u), .ref m9, .ref m10, .ref m11, .int (nI tn), .ref m13, .int (nI sp), .int (nI pt), .ref m16, .ref m17, .ref m18, .ref m19])), (m0, .inl (cI, 380, .inl S)), (m9, .inl (cI, 124, .inl (zap2 u ST c ta)))] H := hP
              have hD : va_D AA [(h, .inr (6, [.ref m0, .ref m1, .ref m2, .int i3, .ref m4, .int (nI (pv + 1)), .int (nI 1), .int (nI ((c + ta.length))), .int (nI u), .ref m9, .ref m10, .ref m11, .int (nI tn), .ref m13, .int (nI sp), .int (nI pt), .ref m16, .ref m17, .ref m18, .ref m19])), (m0, .inl (cI, 380, .inl S)), (m9, .inl (cI, 124, .inl (zap2 u ST c ta)))] := hD
              refine lv_aload_n hx hb dX6_product_51 rfl (lv_at hl 1 rfl) ?_
              obtain ⟨b2, q2, t2, hR2⟩ : ∃ (b0 : Bool) (q0 : Nat) (t0 : zTks), zLS T L (zQ T L u 4) 0 (pv + 1) = (b0, q0, t0) := ⟨_, _, _, rfl⟩
              have hg2 := (zLS_gd (T := T) (zQ_gd (T := T) (L := L) (u := u) 4) 0) (pv + 1) (by omega)
              rw [hR2] at hg2
              obtain ⟨hga2, hgb2, hgc2⟩ : (pv + 1) ≤ q2 ∧ q2 ≤ L ∧ (b2 = true → (pv + 1) < q2 ∧ t2.length ≤ q2 - (pv + 1) ∧ zw1 t2) := hg2
              refine zci (wr := []) (va_runV (As := []) (rest := []) ⟨hx, hb, hml, hown, hts⟩ (c_X6_one_1 l D cI cJ h m0 m1 m2 m4 m9 m10 m11 m13 m16 m17 m18 m19 i3 tn sp pt S (zap2 u ST c ta) L u T (pv + 1) ((c + ta.length)) b2 q2 t2 (by first | rfl | assumption | omega) (by first | rfl | assumption | omega) (by first | rfl | assumption | omega) (by first | rfl | assumption | omega) (by first | rfl | assumption | omega) (by omega) (by omega) hR2 H.size) (cwV 0 hts gX6_product_X6_one rfl rfl rfl (by decide +kernel) ⟨Nat.le_of_ble_eq_true rfl, Nat.le_of_ble_eq_true rfl⟩) (zpV hK hN hZ hP hD hS hA [0, 1, 2] rfl (by decide) 0 rfl rfl rfl) rfl rfl hl.1 rfl (lv_room (Nat.le_of_ble_eq_true rfl)) dX6_product_52 ⟨Nat.zero_le _, Nat.zero_le _⟩) hP hD hS hA [0, 1, 2] [] rfl rfl (by decide) (by decide) (fun r_25 w_24 H locs h_23 hP hD hS => ?_)
              obtain ⟨c9_26, o9_27, ST9_28, hq9_29, hx9_30, rfl, rfl⟩ := h_23
              have hP : va_P D vwCl [(h, .inr (6, [.ref m0, .ref m1, .ref m2, .int i3, .ref m4, .int (nI q2), .int (nI o9_27), .int (nI c9_26), .int (nI u), .ref m9, .ref m10, .ref m11, .int (nI tn), .ref m13, .int (nI sp), .int (nI pt), .ref m16, .ref m17, .ref m18, .ref m19])), (m0, .inl (cI, 380, .inl S)), (m9, .inl (cI, 124, .inl ST9_28))] H := hP
              have hD : va_D AA [(h, .inr (6, [.ref m0, .ref m1, .ref m2, .int i3, .ref m4, .int (nI q2), .int (nI o9_27), .int (nI c9_26), .int (nI u), .ref m9, .ref m10, .ref m11, .int (nI tn), .ref m13, .int (nI sp), .int (nI pt), .ref m16, .ref m17, .ref m18, .ref m19])), (m0, .inl (cI, 380, .inl S)), (m9, .inl (cI, 124, .inl ST9_28))] := hD
              refine lv_if_ne (tgt := 60) hx hb dX6_product_55 (by decide) (fun c55_31 => ?_) (fun c55_31 => ?_)
              · have c55_31 := bI_n0.mp c55_31
                obtain ⟨hgd2, hge2, hgf2⟩ := hgc2 c55_31
                obtain ⟨he2, hE2, ho2⟩ := hx9_30 c55_31
                subst he2; subst hE2; subst ho2
                refine lv_aload_n hx hb dX6_product_60 rfl (lv_at hl 1 rfl) ?_
                refine lv_iconst (v := nI 3) hx hb dX6_product_61 (by decide) ?_
                refine lv_iload_n hx hb dX6_product_62 rfl (lv_at hl 0 rfl) ?_
                refine zcv (wr := [(m0, .inl (cI, 380, .inl S))]) (va_runV (As := [.int (nI 3), .int (nI (T pv))]) (rest := []) ⟨hx, hb, hml, hown, hts⟩ (c_X6_step1 l D cI cJ h m0 m1 m2 m4 m9 m10 m11 m13 m16 m17 m18 m19 i3 tn sp pt u q2 1 ((c + ta.length + t2.length)) (zap2 u (zap2 u ST c ta) (c + ta.length) t2) 3 (nI (T pv)) (by omega) H.size) (cwV 2 hts gX6_product_X6_step1 rfl rfl rfl (by decide +kernel) ⟨Nat.le_of_ble_eq_true rfl, Nat.le_of_ble_eq_true rfl⟩) (zpV hK hN hZ hP hD hS hA [0, 2] rfl (by decide) 0 rfl rfl rfl) rfl rfl hl.1 rfl (lv_room (Nat.le_of_ble_eq_true rfl)) dX6_product_63 ⟨Nat.zero_le _, Nat.zero_le _⟩) hP hD hS hA [0, 2] [1] rfl rfl (by decide) (by decide) (fun w_33 H locs h_32 hP hD hS => ?_)
                obtain rfl := h_32
                have hP : va_P D vwCl [(m0, .inl (cI, 380, .inl S)), (h, .inr (6, [.ref m0, .ref m1, .ref m2, .int i3, .ref m4, .int (nI q2), .int (nI 1), .int (nI ((((c + ta.length + t2.length)) + 1))), .int (nI u), .ref m9, .ref m10, .ref m11, .int (nI tn), .ref m13, .int (nI sp), .int (nI pt), .ref m16, .ref m17, .ref m18, .ref m19])), (m9, .inl (cI, 124, .inl ((upd (upd (zap2 u (zap2 u ST c ta) (c + ta.length) t2) (2 * ((c + ta.length + t2.length))) (nI 3)) (2 * ((c + ta.length + t2.length)) + 1) (nI (T pv))))))] H := hP
                have hD : va_D AA [(m0, .inl (cI, 380, .inl S)), (h, .inr (6, [.ref m0, .ref m1, .ref m2, .int i3, .ref m4, .int (nI q2), .int (nI 1), .int (nI ((((c + ta.length + t2.length)) + 1))), .int (nI u), .ref m9, .ref m10, .ref m11, .int (nI tn), .ref m13, .int (nI sp), .int (nI pt), .ref m16, .ref m17, .ref m18, .ref m19])), (m9, .inl (cI, 124, .inl ((upd (upd (zap2 u (zap2 u ST c ta) (c + ta.length) t2) (2 * ((c + ta.length + t2.length))) (nI 3)) (2 * ((c + ta.length + t2.length)) + 1) (nI (T pv))))))] := hD
                refine lv_goto (tgt := 9) hx hb dX6_product_66 (by decide) ?_
                rw [zap23, zlen1 (t := (3, T pv))] at hP hD
                exact ih_9   f1 q2 ((ta ++ (t2 ++ [(3, T pv)]))) (by omega) (zLt (by decide) hz ⟨by omega, zlv_4.mpr (by omega)⟩ hR2 (by assumption)) (by omega) (by omega) (by rw [← zlen1]; omega) ls (lv_sub hl [1] rfl) H locs (hP.sub [1, 0, 2] rfl) (hD.sub [1, 0, 2] (by decide) rfl) hS
              · have c55_31 := bI_0.mp c55_31
                refine lv_iconst (v := nI 0) hx hb dX6_product_58 (by decide) ?_
                exact hret hP hD hS dX6_product_59 rfl (by obtain ⟨e1, e2⟩ := zLf hz ⟨by omega, zlv_4.mpr (by omega)⟩ hR2 (by assumption); subst e1; subst e2; exact ⟨_, _, _, hq9_29, fun h9 => (by cases h9), (bI_f (by decide)).symm, rfl⟩)
            · have c24_22 : ¬ ((T pv) = 47) := fun h9 => c24_22 ((nI_eq (a := T pv) (b := 47) (by have h91 := hT pv (by omega); omega) (by have h91 := hT pv (by omega); omega)).mpr h9)
              refine lv_aload_n hx hb dX6_product_27 rfl (lv_at hl 0 rfl) ?_
              refine zcsE (va_runV (As := []) (rest := []) ⟨hx, hb, hml, hown, hts⟩ (c_X6_look l D cI cJ h m0 m1 m2 m4 m9 m10 m11 m13 m16 m17 m18 m19 i3 tn sp pt S ST L u T pv ((c + ta.length)) 1 (by first | rfl | assumption | omega) (by first | rfl | assumption | omega) (by first | rfl | assumption | omega) (by first | rfl | assumption | omega) (by first | rfl | assumption | omega) (by omega) H.size) (cwV 0 hts gX6_product_X6_look rfl rfl rfl (by decide +kernel) ⟨Nat.le_of_ble_eq_true rfl, Nat.le_of_ble_eq_true rfl⟩) (zpV hK hN hZ hP hD hS hA [0, 1] rfl (by decide) 0 rfl rfl rfl) rfl rfl hl.1 rfl (lv_room (Nat.le_of_ble_eq_true rfl)) dX6_product_28 ⟨Nat.zero_le _, Nat.zero_le _⟩) ?_
              refine zrw (if_pos hpL) ?_
              refine lv_bipush (v := nI 37) hx hb dX6_product_31 (by decide) ?_
              refine lv_icmp_ne (tgt := 69) hx hb dX6_product_33 (by decide) (fun c33_34 => ?_) (fun c33_34 => ?_)
              · have c33_34 : ¬ ((T pv) = 37) := fun h9 => c33_34 ((nI_eq (a := T pv) (b := 37) (by have h91 := hT pv (by omega); omega) (by have h91 := hT pv (by omega); omega)).mpr h9)
                refine lv_iconst (v := nI 1) hx hb dX6_product_69 (by decide) ?_
                exact hret hP hD hS dX6_product_70 rfl (by obtain ⟨e1, e2, e3⟩ := zLe (f := f1) hz (fun h9 => by have h91 := h9.1; have h92 := zlv_4.mp h9.2; omega); subst e1; subst e2; subst e3; exact ⟨_, _, _, (by omega), fun _ => ⟨rfl, rfl, rfl⟩, (bI_t rfl).symm, rfl⟩)
              · have c33_34 : (T pv) = 37 := (nI_eq (a := T pv) (b := 37) (by have h91 := hT pv (by omega); omega) (by have h91 := hT pv (by omega); omega)).mp c33_34
                refine lv_aload_n hx hb dX6_product_36 rfl (lv_at hl 0 rfl) ?_
                refine zcsE (va_runV (As := []) (rest := []) ⟨hx, hb, hml, hown, hts⟩ (c_X6_look l D cI cJ h m0 m1 m2 m4 m9 m10 m11 m13 m16 m17 m18 m19 i3 tn sp pt S ST L u T pv ((c + ta.length)) 1 (by first | rfl | assumption | omega) (by first | rfl | assumption | omega) (by first | rfl | assumption | omega) (by first | rfl | assumption | omega) (by first | rfl | assumption | omega) (by omega) H.size) (cwV 0 hts gX6_product_X6_look rfl rfl rfl (by decide +kernel) ⟨Nat.le_of_ble_eq_true rfl, Nat.le_of_ble_eq_true rfl⟩) (zpV hK hN hZ hP hD hS hA [0, 1] rfl (by decide) 0 rfl rfl rfl) rfl rfl hl.1 rfl (lv_room (Nat.le_of_ble_eq_true rfl)) dX6_product_37 ⟨Nat.zero_le _, Nat.zero_le _⟩) ?_
                refine zrw (if_pos hpL) ?_
                refine lv_istore_n (lv' := [(1, .int (nI (T pv))), (0, .ref h)]) hx hb dX6_product_40 rfl hl (by decide) rfl (fun ls hl => ?_)
                refine lv_aload_n hx hb dX6_product_41 rfl (lv_at hl 1 rfl) ?_
                refine lv_dup hx hb dX6_product_42 rfl ?_
                refine va_get (ci := 6) (v := .int (nI pv)) (C := RX6) (T := TX6) (N := 20) hx hb hts hin6 hown hK hP 0 rfl rfl 5 (by decide) (hts (.fieldLink RX6 61 "UpAllRoundModel" "at" "I") (List.mem_of_getElem? (i := 1) rfl)) (fun _ h9 => h9) rfl dX6_product_43 ?_
                refine lv_iconst (v := nI 1) hx hb dX6_product_46 (by decide) ?_
                refine lv_iadd hx hb dX6_product_47 ?_
                refine zrw (nI_add _ _) ?_
                refine va_put (ci := 6) (v := .int (nI (pv + 1))) (ty := .int) (C := RX6) (T := TX6) (N := 20) hx hb hts hin6 tyX6 tyX6_ok nmX6 hown hK hP hD hS 0 rfl rfl 5 (by decide) (hts (.fieldLink RX6 61 "UpAllRoundModel" "at" "I") (List.mem_of_getElem? (i := 1) rfl)) (fun _ h9 => h9) rfl (by decide +kernel) rfl rfl (Nat.le_of_ble_eq_true rfl) dX6_product_48 (fun H locs hP hD hS => ?_)
                have hP : va_P D vwCl [(h, .inr (6, [.ref m0, .ref m1, .ref m2, .int i3, .ref m4, .int (nI (pv + 1)), .int (nI 1), .int (nI ((c + ta.length))), .int (nI u), .ref m9, .ref m10, .ref m11, .int (nI tn), .ref m13, .int (nI sp), .int (nI pt), .ref m16, .ref m17, .ref m18, .ref m19])), (m0, .inl (cI, 380, .inl S)), (m9, .inl (cI, 124, .inl (zap2 u ST c ta)))] H := hP
                have hD : va_D AA [(h, .inr (6, [.ref m0, .ref m1, .ref m2, .int i3, .ref m4, .int (nI (pv + 1)), .int (nI 1), .int (nI ((c + ta.length))), .int (nI u), .ref m9, .ref m10, .ref m11, .int (nI tn), .ref m13, .int (nI sp), .int (nI pt), .ref m16, .ref m17, .ref m18, .ref m19])), (m0, .inl (cI, 380, .inl S)), (m9, .inl (cI, 124, .inl (zap2 u ST c ta)))] := hD
                refine lv_aload_n hx hb dX6_product_51 rfl (lv_at hl 1 rfl) ?_
                obtain ⟨b2, q2, t2, hR2⟩ : ∃ (b0 : Bool) (q0 : Nat) (t0 : zTks), zLS T L (zQ T L u 4) 0 (pv + 1) = (b0, q0, t0) := ⟨_, _, _, rfl⟩
                have hg2 := (zLS_gd (T := T) (zQ_gd (T := T) (L := L) (u := u) 4) 0) (pv + 1) (by omega)
                rw [hR2] at hg2
                obtain ⟨hga2, hgb2, hgc2⟩ : (pv + 1) ≤ q2 ∧ q2 ≤ L ∧ (b2 = true → (pv + 1) < q2 ∧ t2.length ≤ q2 - (pv + 1) ∧ zw1 t2) := hg2
                refine zci (wr := []) (va_runV (As := []) (rest := []) ⟨hx, hb, hml, hown, hts⟩ (c_X6_one_1 l D cI cJ h m0 m1 m2 m4 m9 m10 m11 m13 m16 m17 m18 m19 i3 tn sp pt S (zap2 u ST c ta) L u T (pv + 1) ((c + ta.length)) b2 q2 t2 (by first | rfl | assumption | omega) (by first | rfl | assumption | omega) (by first | rfl | assumption | omega) (by first | rfl | assumption | omega) (by first | rfl | assumption | omega) (by omega) (by omega) hR2 H.size) (cwV 0 hts gX6_product_X6_one rfl rfl rfl (by decide +kernel) ⟨Nat.le_of_ble_eq_true rfl, Nat.le_of_ble_eq_true rfl⟩) (zpV hK hN hZ hP hD hS hA [0, 1, 2] rfl (by decide) 0 rfl rfl rfl) rfl rfl hl.1 rfl (lv_room (Nat.le_of_ble_eq_true rfl)) dX6_product_52 ⟨Nat.zero_le _, Nat.zero_le _⟩) hP hD hS hA [0, 1, 2] [] rfl rfl (by decide) (by decide) (fun r_37 w_36 H locs h_35 hP hD hS => ?_)
                obtain ⟨c9_38, o9_39, ST9_40, hq9_41, hx9_42, rfl, rfl⟩ := h_35
                have hP : va_P D vwCl [(h, .inr (6, [.ref m0, .ref m1, .ref m2, .int i3, .ref m4, .int (nI q2), .int (nI o9_39), .int (nI c9_38), .int (nI u), .ref m9, .ref m10, .ref m11, .int (nI tn), .ref m13, .int (nI sp), .int (nI pt), .ref m16, .ref m17, .ref m18, .ref m19])), (m0, .inl (cI, 380, .inl S)), (m9, .inl (cI, 124, .inl ST9_40))] H := hP
                have hD : va_D AA [(h, .inr (6, [.ref m0, .ref m1, .ref m2, .int i3, .ref m4, .int (nI q2), .int (nI o9_39), .int (nI c9_38), .int (nI u), .ref m9, .ref m10, .ref m11, .int (nI tn), .ref m13, .int (nI sp), .int (nI pt), .ref m16, .ref m17, .ref m18, .ref m19])), (m0, .inl (cI, 380, .inl S)), (m9, .inl (cI, 124, .inl ST9_40))] := hD
                refine lv_if_ne (tgt := 60) hx hb dX6_product_55 (by decide) (fun c55_43 => ?_) (fun c55_43 => ?_)
                · have c55_43 := bI_n0.mp c55_43
                  obtain ⟨hgd2, hge2, hgf2⟩ := hgc2 c55_43
                  obtain ⟨he2, hE2, ho2⟩ := hx9_42 c55_43
                  subst he2; subst hE2; subst ho2
                  refine lv_aload_n hx hb dX6_product_60 rfl (lv_at hl 1 rfl) ?_
                  refine lv_iconst (v := nI 3) hx hb dX6_product_61 (by decide) ?_
                  refine lv_iload_n hx hb dX6_product_62 rfl (lv_at hl 0 rfl) ?_
                  refine zcv (wr := [(m0, .inl (cI, 380, .inl S))]) (va_runV (As := [.int (nI 3), .int (nI (T pv))]) (rest := []) ⟨hx, hb, hml, hown, hts⟩ (c_X6_step1 l D cI cJ h m0 m1 m2 m4 m9 m10 m11 m13 m16 m17 m18 m19 i3 tn sp pt u q2 1 ((c + ta.length + t2.length)) (zap2 u (zap2 u ST c ta) (c + ta.length) t2) 3 (nI (T pv)) (by omega) H.size) (cwV 2 hts gX6_product_X6_step1 rfl rfl rfl (by decide +kernel) ⟨Nat.le_of_ble_eq_true rfl, Nat.le_of_ble_eq_true rfl⟩) (zpV hK hN hZ hP hD hS hA [0, 2] rfl (by decide) 0 rfl rfl rfl) rfl rfl hl.1 rfl (lv_room (Nat.le_of_ble_eq_true rfl)) dX6_product_63 ⟨Nat.zero_le _, Nat.zero_le _⟩) hP hD hS hA [0, 2] [1] rfl rfl (by decide) (by decide) (fun w_45 H locs h_44 hP hD hS => ?_)
                  obtain rfl := h_44
                  have hP : va_P D vwCl [(m0, .inl (cI, 380, .inl S)), (h, .inr (6, [.ref m0, .ref m1, .ref m2, .int i3, .ref m4, .int (nI q2), .int (nI 1), .int (nI ((((c + ta.length + t2.length)) + 1))), .int (nI u), .ref m9, .ref m10, .ref m11, .int (nI tn), .ref m13, .int (nI sp), .int (nI pt), .ref m16, .ref m17, .ref m18, .ref m19])), (m9, .inl (cI, 124, .inl ((upd (upd (zap2 u (zap2 u ST c ta) (c + ta.length) t2) (2 * ((c + ta.length + t2.length))) (nI 3)) (2 * ((c + ta.length + t2.length)) + 1) (nI (T pv))))))] H := hP
                  have hD : va_D AA [(m0, .inl (cI, 380, .inl S)), (h, .inr (6, [.ref m0, .ref m1, .ref m2, .int i3, .ref m4, .int (nI q2), .int (nI 1), .int (nI ((((c + ta.length + t2.length)) + 1))), .int (nI u), .ref m9, .ref m10, .ref m11, .int (nI tn), .ref m13, .int (nI sp), .int (nI pt), .ref m16, .ref m17, .ref m18, .ref m19])), (m9, .inl (cI, 124, .inl ((upd (upd (zap2 u (zap2 u ST c ta) (c + ta.length) t2) (2 * ((c + ta.length + t2.length))) (nI 3)) (2 * ((c + ta.length + t2.length)) + 1) (nI (T pv))))))] := hD
                  refine lv_goto (tgt := 9) hx hb dX6_product_66 (by decide) ?_
                  rw [zap23, zlen1 (t := (3, T pv))] at hP hD
                  exact ih_9   f1 q2 ((ta ++ (t2 ++ [(3, T pv)]))) (by omega) (zLt (by decide) hz ⟨by omega, zlv_4.mpr (by omega)⟩ hR2 (by assumption)) (by omega) (by omega) (by rw [← zlen1]; omega) ls (lv_sub hl [1] rfl) H locs (hP.sub [1, 0, 2] rfl) (hD.sub [1, 0, 2] (by decide) rfl) hS
                · have c55_43 := bI_0.mp c55_43
                  refine lv_iconst (v := nI 0) hx hb dX6_product_58 (by decide) ?_
                  exact hret hP hD hS dX6_product_59 rfl (by obtain ⟨e1, e2⟩ := zLf hz ⟨by omega, zlv_4.mpr (by omega)⟩ hR2 (by assumption); subst e1; subst e2; exact ⟨_, _, _, hq9_41, fun h9 => (by cases h9), (bI_f (by decide)).symm, rfl⟩)
        · refine zcsE (va_runV (As := []) (rest := []) ⟨hx, hb, hml, hown, hts⟩ (c_X6_look l D cI cJ h m0 m1 m2 m4 m9 m10 m11 m13 m16 m17 m18 m19 i3 tn sp pt S ST L u T pv ((c + ta.length)) 1 (by first | rfl | assumption | omega) (by first | rfl | assumption | omega) (by first | rfl | assumption | omega) (by first | rfl | assumption | omega) (by first | rfl | assumption | omega) (by omega) H.size) (cwV 0 hts gX6_product_X6_look rfl rfl rfl (by decide +kernel) ⟨Nat.le_of_ble_eq_true rfl, Nat.le_of_ble_eq_true rfl⟩) (zpV hK hN hZ hP hD hS hA [0, 1] rfl (by decide) 0 rfl rfl rfl) rfl rfl hl.1 rfl (lv_room (Nat.le_of_ble_eq_true rfl)) dX6_product_10 ⟨Nat.zero_le _, Nat.zero_le _⟩) ?_
          refine zrw (if_neg hpL) ?_
          refine lv_bipush (v := nI 42) hx hb dX6_product_13 (by decide) ?_
          refine lv_icmp_eq (tgt := 36) hx hb dX6_product_15 (by decide) (fun c15_46 => ?_) (fun c15_46 => ?_)
          · exact absurd c15_46 (by decide)
          · refine lv_aload_n hx hb dX6_product_18 rfl (lv_at hl 0 rfl) ?_
            refine zcsE (va_runV (As := []) (rest := []) ⟨hx, hb, hml, hown, hts⟩ (c_X6_look l D cI cJ h m0 m1 m2 m4 m9 m10 m11 m13 m16 m17 m18 m19 i3 tn sp pt S ST L u T pv ((c + ta.length)) 1 (by first | rfl | assumption | omega) (by first | rfl | assumption | omega) (by first | rfl | assumption | omega) (by first | rfl | assumption | omega) (by first | rfl | assumption | omega) (by omega) H.size) (cwV 0 hts gX6_product_X6_look rfl rfl rfl (by decide +kernel) ⟨Nat.le_of_ble_eq_true rfl, Nat.le_of_ble_eq_true rfl⟩) (zpV hK hN hZ hP hD hS hA [0, 1] rfl (by decide) 0 rfl rfl rfl) rfl rfl hl.1 rfl (lv_room (Nat.le_of_ble_eq_true rfl)) dX6_product_19 ⟨Nat.zero_le _, Nat.zero_le _⟩) ?_
            refine zrw (if_neg hpL) ?_
            refine lv_bipush (v := nI 47) hx hb dX6_product_22 (by decide) ?_
            refine lv_icmp_eq (tgt := 36) hx hb dX6_product_24 (by decide) (fun c24_47 => ?_) (fun c24_47 => ?_)
            · exact absurd c24_47 (by decide)
            · refine lv_aload_n hx hb dX6_product_27 rfl (lv_at hl 0 rfl) ?_
              refine zcsE (va_runV (As := []) (rest := []) ⟨hx, hb, hml, hown, hts⟩ (c_X6_look l D cI cJ h m0 m1 m2 m4 m9 m10 m11 m13 m16 m17 m18 m19 i3 tn sp pt S ST L u T pv ((c + ta.length)) 1 (by first | rfl | assumption | omega) (by first | rfl | assumption | omega) (by first | rfl | assumption | omega) (by first | rfl | assumption | omega) (by first | rfl | assumption | omega) (by omega) H.size) (cwV 0 hts gX6_product_X6_look rfl rfl rfl (by decide +kernel) ⟨Nat.le_of_ble_eq_true rfl, Nat.le_of_ble_eq_true rfl⟩) (zpV hK hN hZ hP hD hS hA [0, 1] rfl (by decide) 0 rfl rfl rfl) rfl rfl hl.1 rfl (lv_room (Nat.le_of_ble_eq_true rfl)) dX6_product_28 ⟨Nat.zero_le _, Nat.zero_le _⟩) ?_
              refine zrw (if_neg hpL) ?_
              refine lv_bipush (v := nI 37) hx hb dX6_product_31 (by decide) ?_
              refine lv_icmp_ne (tgt := 69) hx hb dX6_product_33 (by decide) (fun c33_48 => ?_) (fun c33_48 => ?_)
              · refine lv_iconst (v := nI 1) hx hb dX6_product_69 (by decide) ?_
                exact hret hP hD hS dX6_product_70 rfl (by obtain ⟨e1, e2, e3⟩ := zLe (f := f1) hz (fun h9 => by have h91 := h9.1; have h92 := zlv_4.mp h9.2; omega); subst e1; subst e2; subst e3; exact ⟨_, _, _, (by omega), fun _ => ⟨rfl, rfl, rfl⟩, (bI_t rfl).symm, rfl⟩)
              · exact absurd c33_48 (by decide)
    exact L_9 62  61 q1 t1 (by omega) hz (by omega) (by omega) (by omega) ls (lv_sub hl [0] rfl) _ _ hP hD hS
  · have c4_9 := bI_0.mp c4_9
    refine lv_iconst (v := nI 0) hx hb dX6_product_7 (by decide) ?_
    exact hret hP hD hS dX6_product_8 rfl (by obtain ⟨e1, e2⟩ := zLv_ff hR hR1 (by assumption); subst e1; subst e2; exact ⟨_, _, _, hq9_7, fun h9 => (by cases h9), (bI_f (by decide)).symm, rfl⟩)
set_option maxHeartbeats 4000000 in
set_option maxRecDepth 100000 in
theorem c_X6_sum_1 (l : Launch) (D : va_G) (cI cJ : ClassId) (h : Nat) (m0 : Nat) (m1 : Nat) (m2 : Nat) (m4 : Nat) (m9 : Nat) (m10 : Nat) (m11 : Nat) (m13 : Nat) (m16 : Nat) (m17 : Nat) (m18 : Nat) (m19 : Nat) (i3 : Int32) (tn : Nat) (sp : Nat) (pt : Nat) (S : Nat → Int32) (ST : Nat → Int32) (L : Nat) (u : Nat) (T : Nat → Nat) (p : Nat) (c : Nat) (b : Bool) (q : Nat) (tl : zTks) (hL : L ≤ 60) (hu1 : u ≤ 1) (hT : ∀ i, i < L → T i < 256) (htb : ∀ i, i < L → S (296 + i) = nI (T i)) (hS4 : S 4 = nI L) (hp : p ≤ L) (hcp : c ≤ p) (hR : zLS T L (zQ T L u 4) 2 p = (b, q, tl)) : zMi l yX6_sum wsX6_sum ({ frames := 27, cells := 0, slots := 0, locals := 570 } : Room) D [(cI, .int), (cJ, .array .int)] [.ref h] [(h, .inr (6, [.ref m0, .ref m1, .ref m2, .int i3, .ref m4, .int (nI p), .int (nI 1), .int (nI c), .int (nI u), .ref m9, .ref m10, .ref m11, .int (nI tn), .ref m13, .int (nI sp), .int (nI pt), .ref m16, .ref m17, .ref m18, .ref m19])), (m0, .inl (cI, 380, .inl S)), (m9, .inl (cI, 124, .inl ST))] (fun r w => ∃ (c9 o9 : Nat) (ST9 : Nat → Int32), c9 ≤ q ∧ (b = true → c9 = c + tl.length ∧ ST9 = zap2 u ST c tl ∧ o9 = 1) ∧ r = bI (b = true) ∧ w = [(h, .inr (6, [.ref m0, .ref m1, .ref m2, .int i3, .ref m4, .int (nI q), .int (nI o9), .int (nI c9), .int (nI u), .ref m9, .ref m10, .ref m11, .int (nI tn), .ref m13, .int (nI sp), .int (nI pt), .ref m16, .ref m17, .ref m18, .ref m19])), (m0, .inl (cI, 380, .inl S)), (m9, .inl (cI, 124, .inl ST9))]) := by
  refine zMi.start (cc := cX6_sum) (maxL := 2) (rt := .boolean) (by first | decide | decide +kernel) rfl (Nat.le_of_ble_eq_true rfl) ?_
  intro pg ev s mt args below meth cd ls AA QQ ⟨hx, hb, hml, hr, hlocks, hown, hts, hK, hN, hZ, hP, hD, hA, hS, hl⟩ hret
  have hown : s.vm.findClass RX6 = some mt.cls := hown
  have hl : lv_has ls 2 [(0, .ref h)] := hl
  have hin6 : ∀ w ∈ wsX60, w ∈ wsX6_sum := fun w h => List.mem_cons_of_mem _ (List.mem_append_right _ (h))
  have hR : zLv T L 3 (zLS T L (zQ T L u 4) 1) p = (b, q, tl) := hR
  obtain ⟨b1, q1, t1, hR1⟩ : ∃ (b0 : Bool) (q0 : Nat) (t0 : zTks), zLS T L (zQ T L u 4) 1 p = (b0, q0, t0) := ⟨_, _, _, rfl⟩
  have hg1 := (zLS_gd (T := T) (zQ_gd (T := T) (L := L) (u := u) 4) 1) p (by omega)
  rw [hR1] at hg1
  obtain ⟨hga1, hgb1, hgc1⟩ : p ≤ q1 ∧ q1 ≤ L ∧ (b1 = true → p < q1 ∧ t1.length ≤ q1 - p ∧ zw1 t1) := hg1
  refine lv_aload_n hx hb dX6_sum_0 rfl (lv_at hl 0 rfl) ?_
  refine zci (wr := []) (va_runV (As := []) (rest := []) ⟨hx, hb, hml, hown, hts⟩ (c_X6_product_1 l D cI cJ h m0 m1 m2 m4 m9 m10 m11 m13 m16 m17 m18 m19 i3 tn sp pt S ST L u T p c b1 q1 t1 (by first | rfl | assumption | omega) (by first | rfl | assumption | omega) (by first | rfl | assumption | omega) (by first | rfl | assumption | omega) (by first | rfl | assumption | omega) (by first | rfl | assumption | omega) (by first | rfl | assumption | omega) hR1 s.heap.size) (cwV 0 hts gX6_sum_X6_product rfl rfl rfl (by decide +kernel) ⟨Nat.le_of_ble_eq_true rfl, Nat.le_of_ble_eq_true rfl⟩) (zpV hK hN hZ hP hD hS hA [0, 1, 2] rfl (by decide) 0 rfl rfl rfl) rfl rfl hl.1 rfl (lv_room (Nat.le_of_ble_eq_true rfl)) dX6_sum_1 ⟨Nat.zero_le _, Nat.zero_le _⟩) hP hD hS hA [0, 1, 2] [] rfl rfl (by decide) (by decide) (fun r_3 w_2 H locs h_1 hP hD hS => ?_)
  obtain ⟨c9_4, o9_5, ST9_6, hq9_7, hx9_8, rfl, rfl⟩ := h_1
  have hP : va_P D vwCl [(h, .inr (6, [.ref m0, .ref m1, .ref m2, .int i3, .ref m4, .int (nI q1), .int (nI o9_5), .int (nI c9_4), .int (nI u), .ref m9, .ref m10, .ref m11, .int (nI tn), .ref m13, .int (nI sp), .int (nI pt), .ref m16, .ref m17, .ref m18, .ref m19])), (m0, .inl (cI, 380, .inl S)), (m9, .inl (cI, 124, .inl ST9_6))] H := hP
  have hD : va_D AA [(h, .inr (6, [.ref m0, .ref m1, .ref m2, .int i3, .ref m4, .int (nI q1), .int (nI o9_5), .int (nI c9_4), .int (nI u), .ref m9, .ref m10, .ref m11, .int (nI tn), .ref m13, .int (nI sp), .int (nI pt), .ref m16, .ref m17, .ref m18, .ref m19])), (m0, .inl (cI, 380, .inl S)), (m9, .inl (cI, 124, .inl ST9_6))] := hD
  refine lv_if_ne (tgt := 9) hx hb dX6_sum_4 (by decide) (fun c4_9 => ?_) (fun c4_9 => ?_)
  · have c4_9 := bI_n0.mp c4_9
    obtain ⟨hgd1, hge1, hgf1⟩ := hgc1 c4_9
    obtain ⟨he1, hE1, ho1⟩ := hx9_8 c4_9
    subst he1; subst hE1; subst ho1
    have hz := zLv_tt hR hR1 c4_9
    have L_9 : ∀ (fu : Nat) (f : Nat) (pv : Nat) (ta : zTks) (hn : f < fu) (hz : zct ta (zLp T L 3 (zLS T L (zQ T L u 4) 1) f pv) = (b, q, tl)) (hf : L - pv < f) (hpv : pv ≤ L) (hca : c + ta.length ≤ pv), ∀ (ls : Array Slot), lv_has ls 2 [(0, .ref h)] → ∀ (H : Heap) (locs : List Loc), va_P D vwCl [(h, .inr (6, [.ref m0, .ref m1, .ref m2, .int i3, .ref m4, .int (nI pv), .int (nI 1), .int (nI ((c + ta.length))), .int (nI u), .ref m9, .ref m10, .ref m11, .int (nI tn), .ref m13, .int (nI sp), .int (nI pt), .ref m16, .ref m17, .ref m18, .ref m19])), (m0, .inl (cI, 380, .inl S)), (m9, .inl (cI, 124, .inl (zap2 u ST c ta)))] H → va_D AA [(h, .inr (6, [.ref m0, .ref m1, .ref m2, .int i3, .ref m4, .int (nI pv), .int (nI 1), .int (nI ((c + ta.length))), .int (nI u), .ref m9, .ref m10, .ref m11, .int (nI tn), .ref m13, .int (nI sp), .int (nI pt), .ref m16, .ref m17, .ref m18, .ref m19])), (m0, .inl (cI, 380, .inl S)), (m9, .inl (cI, 124, .inl (zap2 u ST c ta)))] → va_S AA s.heap H locs → W pg l ev ({ frames := 27, cells := 0, slots := 0, locals := 570 } : Room) s mt args below meth cd H locs 0 0 QQ (F0 mt 9 ls []) := by
      intro fu
      induction fu with
      | zero =>
        intro  f pv ta  hn
        exact absurd hn (by omega)
      | succ fu ih_9 =>
        intro  f pv ta  hn hz hf hpv hca ls hl H locs hP hD hS
        obtain ⟨f1, rfl⟩ : ∃ f1, f = f1 + 1 := ⟨f - 1, by omega⟩
        refine lv_aload_n hx hb dX6_sum_9 rfl (lv_at hl 0 rfl) ?_
        by_cases hpL : pv < L
        · refine zcsE (va_runV (As := []) (rest := []) ⟨hx, hb, hml, hown, hts⟩ (c_X6_look l D cI cJ h m0 m1 m2 m4 m9 m10 m11 m13 m16 m17 m18 m19 i3 tn sp pt S ST L u T pv ((c + ta.length)) 1 (by first | rfl | assumption | omega) (by first | rfl | assumption | omega) (by first | rfl | assumption | omega) (by first | rfl | assumption | omega) (by first | rfl | assumption | omega) (by omega) H.size) (cwV 0 hts gX6_sum_X6_look rfl rfl rfl (by decide +kernel) ⟨Nat.le_of_ble_eq_true rfl, Nat.le_of_ble_eq_true rfl⟩) (zpV hK hN hZ hP hD hS hA [0, 1] rfl (by decide) 0 rfl rfl rfl) rfl rfl hl.1 rfl (lv_room (Nat.le_of_ble_eq_true rfl)) dX6_sum_10 ⟨Nat.zero_le _, Nat.zero_le _⟩) ?_
          refine zrw (if_pos hpL) ?_
          refine lv_bipush (v := nI 43) hx hb dX6_sum_13 (by decide) ?_
          refine lv_icmp_eq (tgt := 27) hx hb dX6_sum_15 (by decide) (fun c15_10 => ?_) (fun c15_10 => ?_)
          · have c15_10 : (T pv) = 43 := (nI_eq (a := T pv) (b := 43) (by have h91 := hT pv (by omega); omega) (by have h91 := hT pv (by omega); omega)).mp c15_10
            refine lv_aload_n hx hb dX6_sum_27 rfl (lv_at hl 0 rfl) ?_
            refine zcsE (va_runV (As := []) (rest := []) ⟨hx, hb, hml, hown, hts⟩ (c_X6_look l D cI cJ h m0 m1 m2 m4 m9 m10 m11 m13 m16 m17 m18 m19 i3 tn sp pt S ST L u T pv ((c + ta.length)) 1 (by first | rfl | assumption | omega) (by first | rfl | assumption | omega) (by first | rfl | assumption | omega) (by first | rfl | assumption | omega) (by first | rfl | assumption | omega) (by omega) H.size) (cwV 0 hts gX6_sum_X6_look rfl rfl rfl (by decide +kernel) ⟨Nat.le_of_ble_eq_true rfl, Nat.le_of_ble_eq_true rfl⟩) (zpV hK hN hZ hP hD hS hA [0, 1] rfl (by decide) 0 rfl rfl rfl) rfl rfl hl.1 rfl (lv_room (Nat.le_of_ble_eq_true rfl)) dX6_sum_28 ⟨Nat.zero_le _, Nat.zero_le _⟩) ?_
            refine zrw (if_pos hpL) ?_
            refine lv_istore_n (lv' := [(1, .int (nI (T pv))), (0, .ref h)]) hx hb dX6_sum_31 rfl hl (by decide) rfl (fun ls hl => ?_)
            refine lv_aload_n hx hb dX6_sum_32 rfl (lv_at hl 1 rfl) ?_
            refine lv_dup hx hb dX6_sum_33 rfl ?_
            refine va_get (ci := 6) (v := .int (nI pv)) (C := RX6) (T := TX6) (N := 20) hx hb hts hin6 hown hK hP 0 rfl rfl 5 (by decide) (hts (.fieldLink RX6 61 "UpAllRoundModel" "at" "I") (List.mem_of_getElem? (i := 1) rfl)) (fun _ h9 => h9) rfl dX6_sum_34 ?_
            refine lv_iconst (v := nI 1) hx hb dX6_sum_37 (by decide) ?_
            refine lv_iadd hx hb dX6_sum_38 ?_
            refine zrw (nI_add _ _) ?_
            refine va_put (ci := 6) (v := .int (nI (pv + 1))) (ty := .int) (C := RX6) (T := TX6) (N := 20) hx hb hts hin6 tyX6 tyX6_ok nmX6 hown hK hP hD hS 0 rfl rfl 5 (by decide) (hts (.fieldLink RX6 61 "UpAllRoundModel" "at" "I") (List.mem_of_getElem? (i := 1) rfl)) (fun _ h9 => h9) rfl (by decide +kernel) rfl rfl (Nat.le_of_ble_eq_true rfl) dX6_sum_39 (fun H locs hP hD hS => ?_)
            have hP : va_P D vwCl [(h, .inr (6, [.ref m0, .ref m1, .ref m2, .int i3, .ref m4, .int (nI (pv + 1)), .int (nI 1), .int (nI ((c + ta.length))), .int (nI u), .ref m9, .ref m10, .ref m11, .int (nI tn), .ref m13, .int (nI sp), .int (nI pt), .ref m16, .ref m17, .ref m18, .ref m19])), (m0, .inl (cI, 380, .inl S)), (m9, .inl (cI, 124, .inl (zap2 u ST c ta)))] H := hP
            have hD : va_D AA [(h, .inr (6, [.ref m0, .ref m1, .ref m2, .int i3, .ref m4, .int (nI (pv + 1)), .int (nI 1), .int (nI ((c + ta.length))), .int (nI u), .ref m9, .ref m10, .ref m11, .int (nI tn), .ref m13, .int (nI sp), .int (nI pt), .ref m16, .ref m17, .ref m18, .ref m19])), (m0, .inl (cI, 380, .inl S)), (m9, .inl (cI, 124, .inl (zap2 u ST c ta)))] := hD
            refine lv_aload_n hx hb dX6_sum_42 rfl (lv_at hl 1 rfl) ?_
            obtain ⟨b2, q2, t2, hR2⟩ : ∃ (b0 : Bool) (q0 : Nat) (t0 : zTks), zLS T L (zQ T L u 4) 1 (pv + 1) = (b0, q0, t0) := ⟨_, _, _, rfl⟩
            have hg2 := (zLS_gd (T := T) (zQ_gd (T := T) (L := L) (u := u) 4) 1) (pv + 1) (by omega)
            rw [hR2] at hg2
            obtain ⟨hga2, hgb2, hgc2⟩ : (pv + 1) ≤ q2 ∧ q2 ≤ L ∧ (b2 = true → (pv + 1) < q2 ∧ t2.length ≤ q2 - (pv + 1) ∧ zw1 t2) := hg2
            refine zci (wr := []) (va_runV (As := []) (rest := []) ⟨hx, hb, hml, hown, hts⟩ (c_X6_product_1 l D cI cJ h m0 m1 m2 m4 m9 m10 m11 m13 m16 m17 m18 m19 i3 tn sp pt S (zap2 u ST c ta) L u T (pv + 1) ((c + ta.length)) b2 q2 t2 (by first | rfl | assumption | omega) (by first | rfl | assumption | omega) (by first | rfl | assumption | omega) (by first | rfl | assumption | omega) (by first | rfl | assumption | omega) (by omega) (by omega) hR2 H.size) (cwV 0 hts gX6_sum_X6_product rfl rfl rfl (by decide +kernel) ⟨Nat.le_of_ble_eq_true rfl, Nat.le_of_ble_eq_true rfl⟩) (zpV hK hN hZ hP hD hS hA [0, 1, 2] rfl (by decide) 0 rfl rfl rfl) rfl rfl hl.1 rfl (lv_room (Nat.le_of_ble_eq_true rfl)) dX6_sum_43 ⟨Nat.zero_le _, Nat.zero_le _⟩) hP hD hS hA [0, 1, 2] [] rfl rfl (by decide) (by decide) (fun r_13 w_12 H locs h_11 hP hD hS => ?_)
            obtain ⟨c9_14, o9_15, ST9_16, hq9_17, hx9_18, rfl, rfl⟩ := h_11
            have hP : va_P D vwCl [(h, .inr (6, [.ref m0, .ref m1, .ref m2, .int i3, .ref m4, .int (nI q2), .int (nI o9_15), .int (nI c9_14), .int (nI u), .ref m9, .ref m10, .ref m11, .int (nI tn), .ref m13, .int (nI sp), .int (nI pt), .ref m16, .ref m17, .ref m18, .ref m19])), (m0, .inl (cI, 380, .inl S)), (m9, .inl (cI, 124, .inl ST9_16))] H := hP
            have hD : va_D AA [(h, .inr (6, [.ref m0, .ref m1, .ref m2, .int i3, .ref m4, .int (nI q2), .int (nI o9_15), .int (nI c9_14), .int (nI u), .ref m9, .ref m10, .ref m11, .int (nI tn), .ref m13, .int (nI sp), .int (nI pt), .ref m16, .ref m17, .ref m18, .ref m19])), (m0, .inl (cI, 380, .inl S)), (m9, .inl (cI, 124, .inl ST9_16))] := hD
            refine lv_if_ne (tgt := 51) hx hb dX6_sum_46 (by decide) (fun c46_19 => ?_) (fun c46_19 => ?_)
            · have c46_19 := bI_n0.mp c46_19
              obtain ⟨hgd2, hge2, hgf2⟩ := hgc2 c46_19
              obtain ⟨he2, hE2, ho2⟩ := hx9_18 c46_19
              subst he2; subst hE2; subst ho2
              refine lv_aload_n hx hb dX6_sum_51 rfl (lv_at hl 1 rfl) ?_
              refine lv_iconst (v := nI 3) hx hb dX6_sum_52 (by decide) ?_
              refine lv_iload_n hx hb dX6_sum_53 rfl (lv_at hl 0 rfl) ?_
              refine zcv (wr := [(m0, .inl (cI, 380, .inl S))]) (va_runV (As := [.int (nI 3), .int (nI (T pv))]) (rest := []) ⟨hx, hb, hml, hown, hts⟩ (c_X6_step1 l D cI cJ h m0 m1 m2 m4 m9 m10 m11 m13 m16 m17 m18 m19 i3 tn sp pt u q2 1 ((c + ta.length + t2.length)) (zap2 u (zap2 u ST c ta) (c + ta.length) t2) 3 (nI (T pv)) (by omega) H.size) (cwV 2 hts gX6_sum_X6_step1 rfl rfl rfl (by decide +kernel) ⟨Nat.le_of_ble_eq_true rfl, Nat.le_of_ble_eq_true rfl⟩) (zpV hK hN hZ hP hD hS hA [0, 2] rfl (by decide) 0 rfl rfl rfl) rfl rfl hl.1 rfl (lv_room (Nat.le_of_ble_eq_true rfl)) dX6_sum_54 ⟨Nat.zero_le _, Nat.zero_le _⟩) hP hD hS hA [0, 2] [1] rfl rfl (by decide) (by decide) (fun w_21 H locs h_20 hP hD hS => ?_)
              obtain rfl := h_20
              have hP : va_P D vwCl [(m0, .inl (cI, 380, .inl S)), (h, .inr (6, [.ref m0, .ref m1, .ref m2, .int i3, .ref m4, .int (nI q2), .int (nI 1), .int (nI ((((c + ta.length + t2.length)) + 1))), .int (nI u), .ref m9, .ref m10, .ref m11, .int (nI tn), .ref m13, .int (nI sp), .int (nI pt), .ref m16, .ref m17, .ref m18, .ref m19])), (m9, .inl (cI, 124, .inl ((upd (upd (zap2 u (zap2 u ST c ta) (c + ta.length) t2) (2 * ((c + ta.length + t2.length))) (nI 3)) (2 * ((c + ta.length + t2.length)) + 1) (nI (T pv))))))] H := hP
              have hD : va_D AA [(m0, .inl (cI, 380, .inl S)), (h, .inr (6, [.ref m0, .ref m1, .ref m2, .int i3, .ref m4, .int (nI q2), .int (nI 1), .int (nI ((((c + ta.length + t2.length)) + 1))), .int (nI u), .ref m9, .ref m10, .ref m11, .int (nI tn), .ref m13, .int (nI sp), .int (nI pt), .ref m16, .ref m17, .ref m18, .ref m19])), (m9, .inl (cI, 124, .inl ((upd (upd (zap2 u (zap2 u ST c ta) (c + ta.length) t2) (2 * ((c + ta.length + t2.length))) (nI 3)) (2 * ((c + ta.length + t2.length)) + 1) (nI (T pv))))))] := hD
              refine lv_goto (tgt := 9) hx hb dX6_sum_57 (by decide) ?_
              rw [zap23, zlen1 (t := (3, T pv))] at hP hD
              exact ih_9   f1 q2 ((ta ++ (t2 ++ [(3, T pv)]))) (by omega) (zLt (by decide) hz ⟨by omega, zlv_3.mpr (by omega)⟩ hR2 (by assumption)) (by omega) (by omega) (by rw [← zlen1]; omega) ls (lv_sub hl [1] rfl) H locs (hP.sub [1, 0, 2] rfl) (hD.sub [1, 0, 2] (by decide) rfl) hS
            · have c46_19 := bI_0.mp c46_19
              refine lv_iconst (v := nI 0) hx hb dX6_sum_49 (by decide) ?_
              exact hret hP hD hS dX6_sum_50 rfl (by obtain ⟨e1, e2⟩ := zLf hz ⟨by omega, zlv_3.mpr (by omega)⟩ hR2 (by assumption); subst e1; subst e2; exact ⟨_, _, _, hq9_17, fun h9 => (by cases h9), (bI_f (by decide)).symm, rfl⟩)
          · have c15_10 : ¬ ((T pv) = 43) := fun h9 => c15_10 ((nI_eq (a := T pv) (b := 43) (by have h91 := hT pv (by omega); omega) (by have h91 := hT pv (by omega); omega)).mpr h9)
            refine lv_aload_n hx hb dX6_sum_18 rfl (lv_at hl 0 rfl) ?_
            refine zcsE (va_runV (As := []) (rest := []) ⟨hx, hb, hml, hown, hts⟩ (c_X6_look l D cI cJ h m0 m1 m2 m4 m9 m10 m11 m13 m16 m17 m18 m19 i3 tn sp pt S ST L u T pv ((c + ta.length)) 1 (by first | rfl | assumption | omega) (by first | rfl | assumption | omega) (by first | rfl | assumption | omega) (by first | rfl | assumption | omega) (by first | rfl | assumption | omega) (by omega) H.size) (cwV 0 hts gX6_sum_X6_look rfl rfl rfl (by decide +kernel) ⟨Nat.le_of_ble_eq_true rfl, Nat.le_of_ble_eq_true rfl⟩) (zpV hK hN hZ hP hD hS hA [0, 1] rfl (by decide) 0 rfl rfl rfl) rfl rfl hl.1 rfl (lv_room (Nat.le_of_ble_eq_true rfl)) dX6_sum_19 ⟨Nat.zero_le _, Nat.zero_le _⟩) ?_
            refine zrw (if_pos hpL) ?_
            refine lv_bipush (v := nI 45) hx hb dX6_sum_22 (by decide) ?_
            refine lv_icmp_ne (tgt := 60) hx hb dX6_sum_24 (by decide) (fun c24_22 => ?_) (fun c24_22 => ?_)
            · have c24_22 : ¬ ((T pv) = 45) := fun h9 => c24_22 ((nI_eq (a := T pv) (b := 45) (by have h91 := hT pv (by omega); omega) (by have h91 := hT pv (by omega); omega)).mpr h9)
              refine lv_iconst (v := nI 1) hx hb dX6_sum_60 (by decide) ?_
              exact hret hP hD hS dX6_sum_61 rfl (by obtain ⟨e1, e2, e3⟩ := zLe (f := f1) hz (fun h9 => by have h91 := h9.1; have h92 := zlv_3.mp h9.2; omega); subst e1; subst e2; subst e3; exact ⟨_, _, _, (by omega), fun _ => ⟨rfl, rfl, rfl⟩, (bI_t rfl).symm, rfl⟩)
            · have c24_22 : (T pv) = 45 := (nI_eq (a := T pv) (b := 45) (by have h91 := hT pv (by omega); omega) (by have h91 := hT pv (by omega); omega)).mp c24_22
              refine lv_aload_n hx hb dX6_sum_27 rfl (lv_at hl 0 rfl) ?_
              refine zcsE (va_runV (As := []) (rest := []) ⟨hx, hb, hml, hown, hts⟩ (c_X6_look l D cI cJ h m0 m1 m2 m4 m9 m10 m11 m13 m16 m17 m18 m19 i3 tn sp pt S ST L u T pv ((c + ta.length)) 1 (by first | rfl | assumption | omega) (by first | rfl | assumption | omega) (by first | rfl | assumption | omega) (by first | rfl | assumption | omega) (by first | rfl | assumption | omega) (by omega) H.size) (cwV 0 hts gX6_sum_X6_look rfl rfl rfl (by decide +kernel) ⟨Nat.le_of_ble_eq_true rfl, Nat.le_of_ble_eq_true rfl⟩) (zpV hK hN hZ hP hD hS hA [0, 1] rfl (by decide) 0 rfl rfl rfl) rfl rfl hl.1 rfl (lv_room (Nat.le_of_ble_eq_true rfl)) dX6_sum_28 ⟨Nat.zero_le _, Nat.zero_le _⟩) ?_
              refine zrw (if_pos hpL) ?_
              refine lv_istore_n (lv' := [(1, .int (nI (T pv))), (0, .ref h)]) hx hb dX6_sum_31 rfl hl (by decide) rfl (fun ls hl => ?_)
              refine lv_aload_n hx hb dX6_sum_32 rfl (lv_at hl 1 rfl) ?_
              refine lv_dup hx hb dX6_sum_33 rfl ?_
              refine va_get (ci := 6) (v := .int (nI pv)) (C := RX6) (T := TX6) (N := 20) hx hb hts hin6 hown hK hP 0 rfl rfl 5 (by decide) (hts (.fieldLink RX6 61 "UpAllRoundModel" "at" "I") (List.mem_of_getElem? (i := 1) rfl)) (fun _ h9 => h9) rfl dX6_sum_34 ?_
              refine lv_iconst (v := nI 1) hx hb dX6_sum_37 (by decide) ?_
              refine lv_iadd hx hb dX6_sum_38 ?_
              refine zrw (nI_add _ _) ?_
              refine va_put (ci := 6) (v := .int (nI (pv + 1))) (ty := .int) (C := RX6) (T := TX6) (N := 20) hx hb hts hin6 tyX6 tyX6_ok nmX6 hown hK hP hD hS 0 rfl rfl 5 (by decide) (hts (.fieldLink RX6 61 "UpAllRoundModel" "at" "I") (List.mem_of_getElem? (i := 1) rfl)) (fun _ h9 => h9) rfl (by decide +kernel) rfl rfl (Nat.le_of_ble_eq_true rfl) dX6_sum_39 (fun H locs hP hD hS => ?_)
              have hP : va_P D vwCl [(h, .inr (6, [.ref m0, .ref m1, .ref m2, .int i3, .ref m4, .int (nI (pv + 1)), .int (nI 1), .int (nI ((c + ta.length))), .int (nI u), .ref m9, .ref m10, .ref m11, .int (nI tn), .ref m13, .int (nI sp), .int (nI pt), .ref m16, .ref m17, .ref m18, .ref m19])), (m0, .inl (cI, 380, .inl S)), (m9, .inl (cI, 124, .inl (zap2 u ST c ta)))] H := hP
              have hD : va_D AA [(h, .inr (6, [.ref m0, .ref m1, .ref m2, .int i3, .ref m4, .int (nI (pv + 1)), .int (nI 1), .int (nI ((c + ta.length))), .int (nI u), .ref m9, .ref m10, .ref m11, .int (nI tn), .ref m13, .int (nI sp), .int (nI pt), .ref m16, .ref m17, .ref m18, .ref m19])), (m0, .inl (cI, 380, .inl S)), (m9, .inl (cI, 124, .inl (zap2 u ST c ta)))] := hD
              refine lv_aload_n hx hb dX6_sum_42 rfl (lv_at hl 1 rfl) ?_
              obtain ⟨b2, q2, t2, hR2⟩ : ∃ (b0 : Bool) (q0 : Nat) (t0 : zTks), zLS T L (zQ T L u 4) 1 (pv + 1) = (b0, q0, t0) := ⟨_, _, _, rfl⟩
              have hg2 := (zLS_gd (T := T) (zQ_gd (T := T) (L := L) (u := u) 4) 1) (pv + 1) (by omega)
              rw [hR2] at hg2
              obtain ⟨hga2, hgb2, hgc2⟩ : (pv + 1) ≤ q2 ∧ q2 ≤ L ∧ (b2 = true → (pv + 1) < q2 ∧ t2.length ≤ q2 - (pv + 1) ∧ zw1 t2) := hg2
              refine zci (wr := []) (va_runV (As := []) (rest := []) ⟨hx, hb, hml, hown, hts⟩ (c_X6_product_1 l D cI cJ h m0 m1 m2 m4 m9 m10 m11 m13 m16 m17 m18 m19 i3 tn sp pt S (zap2 u ST c ta) L u T (pv + 1) ((c + ta.length)) b2 q2 t2 (by first | rfl | assumption | omega) (by first | rfl | assumption | omega) (by first | rfl | assumption | omega) (by first | rfl | assumption | omega) (by first | rfl | assumption | omega) (by omega) (by omega) hR2 H.size) (cwV 0 hts gX6_sum_X6_product rfl rfl rfl (by decide +kernel) ⟨Nat.le_of_ble_eq_true rfl, Nat.le_of_ble_eq_true rfl⟩) (zpV hK hN hZ hP hD hS hA [0, 1, 2] rfl (by decide) 0 rfl rfl rfl) rfl rfl hl.1 rfl (lv_room (Nat.le_of_ble_eq_true rfl)) dX6_sum_43 ⟨Nat.zero_le _, Nat.zero_le _⟩) hP hD hS hA [0, 1, 2] [] rfl rfl (by decide) (by decide) (fun r_25 w_24 H locs h_23 hP hD hS => ?_)
              obtain ⟨c9_26, o9_27, ST9_28, hq9_29, hx9_30, rfl, rfl⟩ := h_23
              have hP : va_P D vwCl [(h, .inr (6, [.ref m0, .ref m1, .ref m2, .int i3, .ref m4, .int (nI q2), .int (nI o9_27), .int (nI c9_26), .int (nI u), .ref m9, .ref m10, .ref m11, .int (nI tn), .ref m13, .int (nI sp), .int (nI pt), .ref m16, .ref m17, .ref m18, .ref m19])), (m0, .inl (cI, 380, .inl S)), (m9, .inl (cI, 124, .inl ST9_28))] H := hP
              have hD : va_D AA [(h, .inr (6, [.ref m0, .ref m1, .ref m2, .int i3, .ref m4, .int (nI q2), .int (nI o9_27), .int (nI c9_26), .int (nI u), .ref m9, .ref m10, .ref m11, .int (nI tn), .ref m13, .int (nI sp), .int (nI pt), .ref m16, .ref m17, .ref m18, .ref m19])), (m0, .inl (cI, 380, .inl S)), (m9, .inl (cI, 124, .inl ST9_28))] := hD
              refine lv_if_ne (tgt := 51) hx hb dX6_sum_46 (by decide) (fun c46_31 => ?_) (fun c46_31 => ?_)
              · have c46_31 := bI_n0.mp c46_31
                obtain ⟨hgd2, hge2, hgf2⟩ := hgc2 c46_31
                obtain ⟨he2, hE2, ho2⟩ := hx9_30 c46_31
                subst he2; subst hE2; subst ho2
                refine lv_aload_n hx hb dX6_sum_51 rfl (lv_at hl 1 rfl) ?_
                refine lv_iconst (v := nI 3) hx hb dX6_sum_52 (by decide) ?_
                refine lv_iload_n hx hb dX6_sum_53 rfl (lv_at hl 0 rfl) ?_
                refine zcv (wr := [(m0, .inl (cI, 380, .inl S))]) (va_runV (As := [.int (nI 3), .int (nI (T pv))]) (rest := []) ⟨hx, hb, hml, hown, hts⟩ (c_X6_step1 l D cI cJ h m0 m1 m2 m4 m9 m10 m11 m13 m16 m17 m18 m19 i3 tn sp pt u q2 1 ((c + ta.length + t2.length)) (zap2 u (zap2 u ST c ta) (c + ta.length) t2) 3 (nI (T pv)) (by omega) H.size) (cwV 2 hts gX6_sum_X6_step1 rfl rfl rfl (by decide +kernel) ⟨Nat.le_of_ble_eq_true rfl, Nat.le_of_ble_eq_true rfl⟩) (zpV hK hN hZ hP hD hS hA [0, 2] rfl (by decide) 0 rfl rfl rfl) rfl rfl hl.1 rfl (lv_room (Nat.le_of_ble_eq_true rfl)) dX6_sum_54 ⟨Nat.zero_le _, Nat.zero_le _⟩) hP hD hS hA [0, 2] [1] rfl rfl (by decide) (by decide) (fun w_33 H locs h_32 hP hD hS => ?_)
                obtain rfl := h_32
                have hP : va_P D vwCl [(m0, .inl (cI, 380, .inl S)), (h, .inr (6, [.ref m0, .ref m1, .ref m2, .int i3, .ref m4, .int (nI q2), .int (nI 1), .int (nI ((((c + ta.length + t2.length)) + 1))), .int (nI u), .ref m9, .ref m10, .ref m11, .int (nI tn), .ref m13, .int (nI sp), .int (nI pt), .ref m16, .ref m17, .ref m18, .ref m19])), (m9, .inl (cI, 124, .inl ((upd (upd (zap2 u (zap2 u ST c ta) (c + ta.length) t2) (2 * ((c + ta.length + t2.length))) (nI 3)) (2 * ((c + ta.length + t2.length)) + 1) (nI (T pv))))))] H := hP
                have hD : va_D AA [(m0, .inl (cI, 380, .inl S)), (h, .inr (6, [.ref m0, .ref m1, .ref m2, .int i3, .ref m4, .int (nI q2), .int (nI 1), .int (nI ((((c + ta.length + t2.length)) + 1))), .int (nI u), .ref m9, .ref m10, .ref m11, .int (nI tn), .ref m13, .int (nI sp), .int (nI pt), .ref m16, .ref m17, .ref m18, .ref m19])), (m9, .inl (cI, 124, .inl ((upd (upd (zap2 u (zap2 u ST c ta) (c + ta.length) t2) (2 * ((c + ta.length + t2.length))) (nI 3)) (2 * ((c + ta.length + t2.length)) + 1) (nI (T pv))))))] := hD
                refine lv_goto (tgt := 9) hx hb dX6_sum_57 (by decide) ?_
                rw [zap23, zlen1 (t := (3, T pv))] at hP hD
                exact ih_9   f1 q2 ((ta ++ (t2 ++ [(3, T pv)]))) (by omega) (zLt (by decide) hz ⟨by omega, zlv_3.mpr (by omega)⟩ hR2 (by assumption)) (by omega) (by omega) (by rw [← zlen1]; omega) ls (lv_sub hl [1] rfl) H locs (hP.sub [1, 0, 2] rfl) (hD.sub [1, 0, 2] (by decide) rfl) hS
              · have c46_31 := bI_0.mp c46_31
                refine lv_iconst (v := nI 0) hx hb dX6_sum_49 (by decide) ?_
                exact hret hP hD hS dX6_sum_50 rfl (by obtain ⟨e1, e2⟩ := zLf hz ⟨by omega, zlv_3.mpr (by omega)⟩ hR2 (by assumption); subst e1; subst e2; exact ⟨_, _, _, hq9_29, fun h9 => (by cases h9), (bI_f (by decide)).symm, rfl⟩)
        · refine zcsE (va_runV (As := []) (rest := []) ⟨hx, hb, hml, hown, hts⟩ (c_X6_look l D cI cJ h m0 m1 m2 m4 m9 m10 m11 m13 m16 m17 m18 m19 i3 tn sp pt S ST L u T pv ((c + ta.length)) 1 (by first | rfl | assumption | omega) (by first | rfl | assumption | omega) (by first | rfl | assumption | omega) (by first | rfl | assumption | omega) (by first | rfl | assumption | omega) (by omega) H.size) (cwV 0 hts gX6_sum_X6_look rfl rfl rfl (by decide +kernel) ⟨Nat.le_of_ble_eq_true rfl, Nat.le_of_ble_eq_true rfl⟩) (zpV hK hN hZ hP hD hS hA [0, 1] rfl (by decide) 0 rfl rfl rfl) rfl rfl hl.1 rfl (lv_room (Nat.le_of_ble_eq_true rfl)) dX6_sum_10 ⟨Nat.zero_le _, Nat.zero_le _⟩) ?_
          refine zrw (if_neg hpL) ?_
          refine lv_bipush (v := nI 43) hx hb dX6_sum_13 (by decide) ?_
          refine lv_icmp_eq (tgt := 27) hx hb dX6_sum_15 (by decide) (fun c15_34 => ?_) (fun c15_34 => ?_)
          · exact absurd c15_34 (by decide)
          · refine lv_aload_n hx hb dX6_sum_18 rfl (lv_at hl 0 rfl) ?_
            refine zcsE (va_runV (As := []) (rest := []) ⟨hx, hb, hml, hown, hts⟩ (c_X6_look l D cI cJ h m0 m1 m2 m4 m9 m10 m11 m13 m16 m17 m18 m19 i3 tn sp pt S ST L u T pv ((c + ta.length)) 1 (by first | rfl | assumption | omega) (by first | rfl | assumption | omega) (by first | rfl | assumption | omega) (by first | rfl | assumption | omega) (by first | rfl | assumption | omega) (by omega) H.size) (cwV 0 hts gX6_sum_X6_look rfl rfl rfl (by decide +kernel) ⟨Nat.le_of_ble_eq_true rfl, Nat.le_of_ble_eq_true rfl⟩) (zpV hK hN hZ hP hD hS hA [0, 1] rfl (by decide) 0 rfl rfl rfl) rfl rfl hl.1 rfl (lv_room (Nat.le_of_ble_eq_true rfl)) dX6_sum_19 ⟨Nat.zero_le _, Nat.zero_le _⟩) ?_
            refine zrw (if_neg hpL) ?_
            refine lv_bipush (v := nI 45) hx hb dX6_sum_22 (by decide) ?_
            refine lv_icmp_ne (tgt := 60) hx hb dX6_sum_24 (by decide) (fun c24_35 => ?_) (fun c24_35 => ?_)
            · refine lv_iconst (v := nI 1) hx hb dX6_sum_60 (by decide) ?_
              exact hret hP hD hS dX6_sum_61 rfl (by obtain ⟨e1, e2, e3⟩ := zLe (f := f1) hz (fun h9 => by have h91 := h9.1; have h92 := zlv_3.mp h9.2; omega); subst e1; subst e2; subst e3; exact ⟨_, _, _, (by omega), fun _ => ⟨rfl, rfl, rfl⟩, (bI_t rfl).symm, rfl⟩)
            · exact absurd c24_35 (by decide)
    exact L_9 62  61 q1 t1 (by omega) hz (by omega) (by omega) (by omega) ls (lv_sub hl [0] rfl) _ _ hP hD hS
  · have c4_9 := bI_0.mp c4_9
    refine lv_iconst (v := nI 0) hx hb dX6_sum_7 (by decide) ?_
    exact hret hP hD hS dX6_sum_8 rfl (by obtain ⟨e1, e2⟩ := zLv_ff hR hR1 (by assumption); subst e1; subst e2; exact ⟨_, _, _, hq9_7, fun h9 => (by cases h9), (bI_f (by decide)).symm, rfl⟩)
set_option maxHeartbeats 4000000 in
set_option maxRecDepth 100000 in
theorem c_X6_compared_1 (l : Launch) (D : va_G) (cI cJ : ClassId) (h : Nat) (m0 : Nat) (m1 : Nat) (m2 : Nat) (m4 : Nat) (m9 : Nat) (m10 : Nat) (m11 : Nat) (m13 : Nat) (m16 : Nat) (m17 : Nat) (m18 : Nat) (m19 : Nat) (i3 : Int32) (tn : Nat) (sp : Nat) (pt : Nat) (S : Nat → Int32) (ST : Nat → Int32) (L : Nat) (u : Nat) (T : Nat → Nat) (p : Nat) (c : Nat) (b : Bool) (q : Nat) (tl : zTks) (hL : L ≤ 60) (hu1 : u ≤ 1) (hT : ∀ i, i < L → T i < 256) (htb : ∀ i, i < L → S (296 + i) = nI (T i)) (hS4 : S 4 = nI L) (hp : p ≤ L) (hcp : c ≤ p) (hR : zLS T L (zQ T L u 4) 3 p = (b, q, tl)) : zMi l yX6_compared wsX6_compared ({ frames := 28, cells := 0, slots := 0, locals := 591 } : Room) D [(cI, .int), (cJ, .array .int)] [.ref h] [(h, .inr (6, [.ref m0, .ref m1, .ref m2, .int i3, .ref m4, .int (nI p), .int (nI 1), .int (nI c), .int (nI u), .ref m9, .ref m10, .ref m11, .int (nI tn), .ref m13, .int (nI sp), .int (nI pt), .ref m16, .ref m17, .ref m18, .ref m19])), (m0, .inl (cI, 380, .inl S)), (m9, .inl (cI, 124, .inl ST))] (fun r w => ∃ (c9 o9 : Nat) (ST9 : Nat → Int32), c9 ≤ q ∧ (b = true → c9 = c + tl.length ∧ ST9 = zap2 u ST c tl ∧ o9 = 1) ∧ r = bI (b = true) ∧ w = [(h, .inr (6, [.ref m0, .ref m1, .ref m2, .int i3, .ref m4, .int (nI q), .int (nI o9), .int (nI c9), .int (nI u), .ref m9, .ref m10, .ref m11, .int (nI tn), .ref m13, .int (nI sp), .int (nI pt), .ref m16, .ref m17, .ref m18, .ref m19])), (m0, .inl (cI, 380, .inl S)), (m9, .inl (cI, 124, .inl ST9))]) := by
  refine zMi.start (cc := cX6_compared) (maxL := 2) (rt := .boolean) (by first | decide | decide +kernel) rfl (Nat.le_of_ble_eq_true rfl) ?_
  intro pg ev s mt args below meth cd ls AA QQ ⟨hx, hb, hml, hr, hlocks, hown, hts, hK, hN, hZ, hP, hD, hA, hS, hl⟩ hret
  have hown : s.vm.findClass RX6 = some mt.cls := hown
  have hl : lv_has ls 2 [(0, .ref h)] := hl
  have hin6 : ∀ w ∈ wsX60, w ∈ wsX6_compared := fun w h => List.mem_cons_of_mem _ (List.mem_append_right _ (h))
  have hR : zLv T L 2 (zLS T L (zQ T L u 4) 2) p = (b, q, tl) := hR
  obtain ⟨b1, q1, t1, hR1⟩ : ∃ (b0 : Bool) (q0 : Nat) (t0 : zTks), zLS T L (zQ T L u 4) 2 p = (b0, q0, t0) := ⟨_, _, _, rfl⟩
  have hg1 := (zLS_gd (T := T) (zQ_gd (T := T) (L := L) (u := u) 4) 2) p (by omega)
  rw [hR1] at hg1
  obtain ⟨hga1, hgb1, hgc1⟩ : p ≤ q1 ∧ q1 ≤ L ∧ (b1 = true → p < q1 ∧ t1.length ≤ q1 - p ∧ zw1 t1) := hg1
  refine lv_aload_n hx hb dX6_compared_0 rfl (lv_at hl 0 rfl) ?_
  refine zci (wr := []) (va_runV (As := []) (rest := []) ⟨hx, hb, hml, hown, hts⟩ (c_X6_sum_1 l D cI cJ h m0 m1 m2 m4 m9 m10 m11 m13 m16 m17 m18 m19 i3 tn sp pt S ST L u T p c b1 q1 t1 (by first | rfl | assumption | omega) (by first | rfl | assumption | omega) (by first | rfl | assumption | omega) (by first | rfl | assumption | omega) (by first | rfl | assumption | omega) (by first | rfl | assumption | omega) (by first | rfl | assumption | omega) hR1 s.heap.size) (cwV 0 hts gX6_compared_X6_sum rfl rfl rfl (by decide +kernel) ⟨Nat.le_of_ble_eq_true rfl, Nat.le_of_ble_eq_true rfl⟩) (zpV hK hN hZ hP hD hS hA [0, 1, 2] rfl (by decide) 0 rfl rfl rfl) rfl rfl hl.1 rfl (lv_room (Nat.le_of_ble_eq_true rfl)) dX6_compared_1 ⟨Nat.zero_le _, Nat.zero_le _⟩) hP hD hS hA [0, 1, 2] [] rfl rfl (by decide) (by decide) (fun r_3 w_2 H locs h_1 hP hD hS => ?_)
  obtain ⟨c9_4, o9_5, ST9_6, hq9_7, hx9_8, rfl, rfl⟩ := h_1
  have hP : va_P D vwCl [(h, .inr (6, [.ref m0, .ref m1, .ref m2, .int i3, .ref m4, .int (nI q1), .int (nI o9_5), .int (nI c9_4), .int (nI u), .ref m9, .ref m10, .ref m11, .int (nI tn), .ref m13, .int (nI sp), .int (nI pt), .ref m16, .ref m17, .ref m18, .ref m19])), (m0, .inl (cI, 380, .inl S)), (m9, .inl (cI, 124, .inl ST9_6))] H := hP
  have hD : va_D AA [(h, .inr (6, [.ref m0, .ref m1, .ref m2, .int i3, .ref m4, .int (nI q1), .int (nI o9_5), .int (nI c9_4), .int (nI u), .ref m9, .ref m10, .ref m11, .int (nI tn), .ref m13, .int (nI sp), .int (nI pt), .ref m16, .ref m17, .ref m18, .ref m19])), (m0, .inl (cI, 380, .inl S)), (m9, .inl (cI, 124, .inl ST9_6))] := hD
  refine lv_if_ne (tgt := 9) hx hb dX6_compared_4 (by decide) (fun c4_9 => ?_) (fun c4_9 => ?_)
  · have c4_9 := bI_n0.mp c4_9
    obtain ⟨hgd1, hge1, hgf1⟩ := hgc1 c4_9
    obtain ⟨he1, hE1, ho1⟩ := hx9_8 c4_9
    subst he1; subst hE1; subst ho1
    have hz := zLv_tt hR hR1 c4_9
    refine lv_aload_n hx hb dX6_compared_9 rfl (lv_at hl 0 rfl) ?_
    by_cases hpL : q1 < L
    · refine zcsE (va_runV (As := []) (rest := []) ⟨hx, hb, hml, hown, hts⟩ (c_X6_look l D cI cJ h m0 m1 m2 m4 m9 m10 m11 m13 m16 m17 m18 m19 i3 tn sp pt S ST L u T q1 ((c + t1.length)) 1 (by first | rfl | assumption | omega) (by first | rfl | assumption | omega) (by first | rfl | assumption | omega) (by first | rfl | assumption | omega) (by first | rfl | assumption | omega) (by omega) H.size) (cwV 0 hts gX6_compared_X6_look rfl rfl rfl (by decide +kernel) ⟨Nat.le_of_ble_eq_true rfl, Nat.le_of_ble_eq_true rfl⟩) (zpV hK hN hZ hP hD hS hA [0, 1] rfl (by decide) 0 rfl rfl rfl) rfl rfl hl.1 rfl (lv_room (Nat.le_of_ble_eq_true rfl)) dX6_compared_10 ⟨Nat.zero_le _, Nat.zero_le _⟩) ?_
      refine zrw (if_pos hpL) ?_
      refine lv_istore_n (lv' := [(1, .int (nI (T q1))), (0, .ref h)]) hx hb dX6_compared_13 rfl hl (by decide) rfl (fun ls hl => ?_)
      refine lv_iload_n hx hb dX6_compared_14 rfl (lv_at hl 0 rfl) ?_
      refine lv_bipush (v := nI 60) hx hb dX6_compared_15 (by decide) ?_
      refine lv_icmp_eq (tgt := 34) hx hb dX6_compared_17 (by decide) (fun c17_10 => ?_) (fun c17_10 => ?_)
      · have c17_10 : (T q1) = 60 := (nI_eq (a := T q1) (b := 60) (by have h91 := hT q1 (by omega); omega) (by have h91 := hT q1 (by omega); omega)).mp c17_10
        refine lv_aload_n hx hb dX6_compared_34 rfl (lv_at hl 1 rfl) ?_
        refine lv_dup hx hb dX6_compared_35 rfl ?_
        refine va_get (ci := 6) (v := .int (nI q1)) (C := RX6) (T := TX6) (N := 20) hx hb hts hin6 hown hK hP 0 rfl rfl 5 (by decide) (hts (.fieldLink RX6 61 "UpAllRoundModel" "at" "I") (List.mem_of_getElem? (i := 1) rfl)) (fun _ h9 => h9) rfl dX6_compared_36 ?_
        refine lv_iconst (v := nI 1) hx hb dX6_compared_39 (by decide) ?_
        refine lv_iadd hx hb dX6_compared_40 ?_
        refine zrw (nI_add _ _) ?_
        refine va_put (ci := 6) (v := .int (nI (q1 + 1))) (ty := .int) (C := RX6) (T := TX6) (N := 20) hx hb hts hin6 tyX6 tyX6_ok nmX6 hown hK hP hD hS 0 rfl rfl 5 (by decide) (hts (.fieldLink RX6 61 "UpAllRoundModel" "at" "I") (List.mem_of_getElem? (i := 1) rfl)) (fun _ h9 => h9) rfl (by decide +kernel) rfl rfl (Nat.le_of_ble_eq_true rfl) dX6_compared_41 (fun H locs hP hD hS => ?_)
        have hP : va_P D vwCl [(h, .inr (6, [.ref m0, .ref m1, .ref m2, .int i3, .ref m4, .int (nI (q1 + 1)), .int (nI 1), .int (nI ((c + t1.length))), .int (nI u), .ref m9, .ref m10, .ref m11, .int (nI tn), .ref m13, .int (nI sp), .int (nI pt), .ref m16, .ref m17, .ref m18, .ref m19])), (m0, .inl (cI, 380, .inl S)), (m9, .inl (cI, 124, .inl (zap2 u ST c t1)))] H := hP
        have hD : va_D AA [(h, .inr (6, [.ref m0, .ref m1, .ref m2, .int i3, .ref m4, .int (nI (q1 + 1)), .int (nI 1), .int (nI ((c + t1.length))), .int (nI u), .ref m9, .ref m10, .ref m11, .int (nI tn), .ref m13, .int (nI sp), .int (nI pt), .ref m16, .ref m17, .ref m18, .ref m19])), (m0, .inl (cI, 380, .inl S)), (m9, .inl (cI, 124, .inl (zap2 u ST c t1)))] := hD
        refine lv_aload_n hx hb dX6_compared_44 rfl (lv_at hl 1 rfl) ?_
        obtain ⟨b2, q2, t2, hR2⟩ : ∃ (b0 : Bool) (q0 : Nat) (t0 : zTks), zLS T L (zQ T L u 4) 2 (q1 + 1) = (b0, q0, t0) := ⟨_, _, _, rfl⟩
        have hg2 := (zLS_gd (T := T) (zQ_gd (T := T) (L := L) (u := u) 4) 2) (q1 + 1) (by omega)
        rw [hR2] at hg2
        obtain ⟨hga2, hgb2, hgc2⟩ : (q1 + 1) ≤ q2 ∧ q2 ≤ L ∧ (b2 = true → (q1 + 1) < q2 ∧ t2.length ≤ q2 - (q1 + 1) ∧ zw1 t2) := hg2
        refine zci (wr := []) (va_runV (As := []) (rest := []) ⟨hx, hb, hml, hown, hts⟩ (c_X6_sum_1 l D cI cJ h m0 m1 m2 m4 m9 m10 m11 m13 m16 m17 m18 m19 i3 tn sp pt S (zap2 u ST c t1) L u T (q1 + 1) ((c + t1.length)) b2 q2 t2 (by first | rfl | assumption | omega) (by first | rfl | assumption | omega) (by first | rfl | assumption | omega) (by first | rfl | assumption | omega) (by first | rfl | assumption | omega) (by omega) (by omega) hR2 H.size) (cwV 0 hts gX6_compared_X6_sum rfl rfl rfl (by decide +kernel) ⟨Nat.le_of_ble_eq_true rfl, Nat.le_of_ble_eq_true rfl⟩) (zpV hK hN hZ hP hD hS hA [0, 1, 2] rfl (by decide) 0 rfl rfl rfl) rfl rfl hl.1 rfl (lv_room (Nat.le_of_ble_eq_true rfl)) dX6_compared_45 ⟨Nat.zero_le _, Nat.zero_le _⟩) hP hD hS hA [0, 1, 2] [] rfl rfl (by decide) (by decide) (fun r_13 w_12 H locs h_11 hP hD hS => ?_)
        obtain ⟨c9_14, o9_15, ST9_16, hq9_17, hx9_18, rfl, rfl⟩ := h_11
        have hP : va_P D vwCl [(h, .inr (6, [.ref m0, .ref m1, .ref m2, .int i3, .ref m4, .int (nI q2), .int (nI o9_15), .int (nI c9_14), .int (nI u), .ref m9, .ref m10, .ref m11, .int (nI tn), .ref m13, .int (nI sp), .int (nI pt), .ref m16, .ref m17, .ref m18, .ref m19])), (m0, .inl (cI, 380, .inl S)), (m9, .inl (cI, 124, .inl ST9_16))] H := hP
        have hD : va_D AA [(h, .inr (6, [.ref m0, .ref m1, .ref m2, .int i3, .ref m4, .int (nI q2), .int (nI o9_15), .int (nI c9_14), .int (nI u), .ref m9, .ref m10, .ref m11, .int (nI tn), .ref m13, .int (nI sp), .int (nI pt), .ref m16, .ref m17, .ref m18, .ref m19])), (m0, .inl (cI, 380, .inl S)), (m9, .inl (cI, 124, .inl ST9_16))] := hD
        refine lv_if_ne (tgt := 53) hx hb dX6_compared_48 (by decide) (fun c48_19 => ?_) (fun c48_19 => ?_)
        · have c48_19 := bI_n0.mp c48_19
          obtain ⟨hgd2, hge2, hgf2⟩ := hgc2 c48_19
          obtain ⟨he2, hE2, ho2⟩ := hx9_18 c48_19
          subst he2; subst hE2; subst ho2
          refine lv_aload_n hx hb dX6_compared_53 rfl (lv_at hl 1 rfl) ?_
          refine lv_iconst (v := nI 3) hx hb dX6_compared_54 (by decide) ?_
          refine lv_iload_n hx hb dX6_compared_55 rfl (lv_at hl 0 rfl) ?_
          refine zcv (wr := [(m0, .inl (cI, 380, .inl S))]) (va_runV (As := [.int (nI 3), .int (nI (T q1))]) (rest := []) ⟨hx, hb, hml, hown, hts⟩ (c_X6_step1 l D cI cJ h m0 m1 m2 m4 m9 m10 m11 m13 m16 m17 m18 m19 i3 tn sp pt u q2 1 ((c + t1.length + t2.length)) (zap2 u (zap2 u ST c t1) (c + t1.length) t2) 3 (nI (T q1)) (by omega) H.size) (cwV 2 hts gX6_compared_X6_step1 rfl rfl rfl (by decide +kernel) ⟨Nat.le_of_ble_eq_true rfl, Nat.le_of_ble_eq_true rfl⟩) (zpV hK hN hZ hP hD hS hA [0, 2] rfl (by decide) 0 rfl rfl rfl) rfl rfl hl.1 rfl (lv_room (Nat.le_of_ble_eq_true rfl)) dX6_compared_56 ⟨Nat.zero_le _, Nat.zero_le _⟩) hP hD hS hA [0, 2] [1] rfl rfl (by decide) (by decide) (fun w_21 H locs h_20 hP hD hS => ?_)
          obtain rfl := h_20
          have hP : va_P D vwCl [(m0, .inl (cI, 380, .inl S)), (h, .inr (6, [.ref m0, .ref m1, .ref m2, .int i3, .ref m4, .int (nI q2), .int (nI 1), .int (nI ((((c + t1.length + t2.length)) + 1))), .int (nI u), .ref m9, .ref m10, .ref m11, .int (nI tn), .ref m13, .int (nI sp), .int (nI pt), .ref m16, .ref m17, .ref m18, .ref m19])), (m9, .inl (cI, 124, .inl ((upd (upd (zap2 u (zap2 u ST c t1) (c + t1.length) t2) (2 * ((c + t1.length + t2.length))) (nI 3)) (2 * ((c + t1.length + t2.length)) + 1) (nI (T q1))))))] H := hP
          have hD : va_D AA [(m0, .inl (cI, 380, .inl S)), (h, .inr (6, [.ref m0, .ref m1, .ref m2, .int i3, .ref m4, .int (nI q2), .int (nI 1), .int (nI ((((c + t1.length + t2.length)) + 1))), .int (nI u), .ref m9, .ref m10, .ref m11, .int (nI tn), .ref m13, .int (nI sp), .int (nI pt), .ref m16, .ref m17, .ref m18, .ref m19])), (m9, .inl (cI, 124, .inl ((upd (upd (zap2 u (zap2 u ST c t1) (c + t1.length) t2) (2 * ((c + t1.length + t2.length))) (nI 3)) (2 * ((c + t1.length + t2.length)) + 1) (nI (T q1))))))] := hD
          refine lv_iconst (v := nI 1) hx hb dX6_compared_59 (by decide) ?_
          have hP := hP.sub (ws' := [(h, .inr (6, [.ref m0, .ref m1, .ref m2, .int i3, .ref m4, .int (nI q2), .int (nI 1), .int (nI ((((c + t1.length + t2.length)) + 1))), .int (nI u), .ref m9, .ref m10, .ref m11, .int (nI tn), .ref m13, .int (nI sp), .int (nI pt), .ref m16, .ref m17, .ref m18, .ref m19])), (m0, .inl (cI, 380, .inl S)), (m9, .inl (cI, 124, .inl ((upd (upd (zap2 u (zap2 u ST c t1) (c + t1.length) t2) (2 * ((c + t1.length + t2.length))) (nI 3)) (2 * ((c + t1.length + t2.length)) + 1) (nI (T q1))))))]) [1, 0, 2] rfl
          have hD := hD.sub (ws' := [(h, .inr (6, [.ref m0, .ref m1, .ref m2, .int i3, .ref m4, .int (nI q2), .int (nI 1), .int (nI ((((c + t1.length + t2.length)) + 1))), .int (nI u), .ref m9, .ref m10, .ref m11, .int (nI tn), .ref m13, .int (nI sp), .int (nI pt), .ref m16, .ref m17, .ref m18, .ref m19])), (m0, .inl (cI, 380, .inl S)), (m9, .inl (cI, 124, .inl ((upd (upd (zap2 u (zap2 u ST c t1) (c + t1.length) t2) (2 * ((c + t1.length + t2.length))) (nI 3)) (2 * ((c + t1.length + t2.length)) + 1) (nI (T q1))))))]) [1, 0, 2] (by decide) rfl
          exact hret hP hD hS dX6_compared_60 rfl (by obtain ⟨e1, e2, e3⟩ := zL2 hz ⟨by omega, zlv_2.mpr (by omega)⟩ hR2 (by assumption); subst e1; subst e2; subst e3; exact ⟨_, _, _, show c + t1.length + t2.length + 1 ≤ _ from (by omega), fun _ => ⟨zlen1, zap21 (t := (3, T q1)), rfl⟩, (bI_t rfl).symm, rfl⟩)
        · have c48_19 := bI_0.mp c48_19
          refine lv_iconst (v := nI 0) hx hb dX6_compared_51 (by decide) ?_
          exact hret hP hD hS dX6_compared_52 rfl (by obtain ⟨e1, e2⟩ := zLf hz ⟨by omega, zlv_2.mpr (by omega)⟩ hR2 (by assumption); subst e1; subst e2; exact ⟨_, _, _, hq9_17, fun h9 => (by cases h9), (bI_f (by decide)).symm, rfl⟩)
      · have c17_10 : ¬ ((T q1) = 60) := fun h9 => c17_10 ((nI_eq (a := T q1) (b := 60) (by have h91 := hT q1 (by omega); omega) (by have h91 := hT q1 (by omega); omega)).mpr h9)
        refine lv_iload_n hx hb dX6_compared_20 rfl (lv_at hl 0 rfl) ?_
        refine lv_bipush (v := nI 61) hx hb dX6_compared_21 (by decide) ?_
        refine lv_icmp_eq (tgt := 34) hx hb dX6_compared_23 (by decide) (fun c23_22 => ?_) (fun c23_22 => ?_)
        · have c23_22 : (T q1) = 61 := (nI_eq (a := T q1) (b := 61) (by have h91 := hT q1 (by omega); omega) (by have h91 := hT q1 (by omega); omega)).mp c23_22
          refine lv_aload_n hx hb dX6_compared_34 rfl (lv_at hl 1 rfl) ?_
          refine lv_dup hx hb dX6_compared_35 rfl ?_
          refine va_get (ci := 6) (v := .int (nI q1)) (C := RX6) (T := TX6) (N := 20) hx hb hts hin6 hown hK hP 0 rfl rfl 5 (by decide) (hts (.fieldLink RX6 61 "UpAllRoundModel" "at" "I") (List.mem_of_getElem? (i := 1) rfl)) (fun _ h9 => h9) rfl dX6_compared_36 ?_
          refine lv_iconst (v := nI 1) hx hb dX6_compared_39 (by decide) ?_
          refine lv_iadd hx hb dX6_compared_40 ?_
          refine zrw (nI_add _ _) ?_
          refine va_put (ci := 6) (v := .int (nI (q1 + 1))) (ty := .int) (C := RX6) (T := TX6) (N := 20) hx hb hts hin6 tyX6 tyX6_ok nmX6 hown hK hP hD hS 0 rfl rfl 5 (by decide) (hts (.fieldLink RX6 61 "UpAllRoundModel" "at" "I") (List.mem_of_getElem? (i := 1) rfl)) (fun _ h9 => h9) rfl (by decide +kernel) rfl rfl (Nat.le_of_ble_eq_true rfl) dX6_compared_41 (fun H locs hP hD hS => ?_)
          have hP : va_P D vwCl [(h, .inr (6, [.ref m0, .ref m1, .ref m2, .int i3, .ref m4, .int (nI (q1 + 1)), .int (nI 1), .int (nI ((c + t1.length))), .int (nI u), .ref m9, .ref m10, .ref m11, .int (nI tn), .ref m13, .int (nI sp), .int (nI pt), .ref m16, .ref m17, .ref m18, .ref m19])), (m0, .inl (cI, 380, .inl S)), (m9, .inl (cI, 124, .inl (zap2 u ST c t1)))] H := hP
          have hD : va_D AA [(h, .inr (6, [.ref m0, .ref m1, .ref m2, .int i3, .ref m4, .int (nI (q1 + 1)), .int (nI 1), .int (nI ((c + t1.length))), .int (nI u), .ref m9, .ref m10, .ref m11, .int (nI tn), .ref m13, .int (nI sp), .int (nI pt), .ref m16, .ref m17, .ref m18, .ref m19])), (m0, .inl (cI, 380, .inl S)), (m9, .inl (cI, 124, .inl (zap2 u ST c t1)))] := hD
          refine lv_aload_n hx hb dX6_compared_44 rfl (lv_at hl 1 rfl) ?_
          obtain ⟨b2, q2, t2, hR2⟩ : ∃ (b0 : Bool) (q0 : Nat) (t0 : zTks), zLS T L (zQ T L u 4) 2 (q1 + 1) = (b0, q0, t0) := ⟨_, _, _, rfl⟩
          have hg2 := (zLS_gd (T := T) (zQ_gd (T := T) (L := L) (u := u) 4) 2) (q1 + 1) (by omega)
          rw [hR2] at hg2
          obtain ⟨hga2, hgb2, hgc2⟩ : (q1 + 1) ≤ q2 ∧ q2 ≤ L ∧ (b2 = true → (q1 + 1) < q2 ∧ t2.length ≤ q2 - (q1 + 1) ∧ zw1 t2) := hg2
          refine zci (wr := []) (va_runV (As := []) (rest := []) ⟨hx, hb, hml, hown, hts⟩ (c_X6_sum_1 l D cI cJ h m0 m1 m2 m4 m9 m10 m11 m13 m16 m17 m18 m19 i3 tn sp pt S (zap2 u ST c t1) L u T (q1 + 1) ((c + t1.length)) b2 q2 t2 (by first | rfl | assumption | omega) (by first | rfl | assumption | omega) (by first | rfl | assumption | omega) (by first | rfl | assumption | omega) (by first | rfl | assumption | omega) (by omega) (by omega) hR2 H.size) (cwV 0 hts gX6_compared_X6_sum rfl rfl rfl (by decide +kernel) ⟨Nat.le_of_ble_eq_true rfl, Nat.le_of_ble_eq_true rfl⟩) (zpV hK hN hZ hP hD hS hA [0, 1, 2] rfl (by decide) 0 rfl rfl rfl) rfl rfl hl.1 rfl (lv_room (Nat.le_of_ble_eq_true rfl)) dX6_compared_45 ⟨Nat.zero_le _, Nat.zero_le _⟩) hP hD hS hA [0, 1, 2] [] rfl rfl (by decide) (by decide) (fun r_25 w_24 H locs h_23 hP hD hS => ?_)
          obtain ⟨c9_26, o9_27, ST9_28, hq9_29, hx9_30, rfl, rfl⟩ := h_23
          have hP : va_P D vwCl [(h, .inr (6, [.ref m0, .ref m1, .ref m2, .int i3, .ref m4, .int (nI q2), .int (nI o9_27), .int (nI c9_26), .int (nI u), .ref m9, .ref m10, .ref m11, .int (nI tn), .ref m13, .int (nI sp), .int (nI pt), .ref m16, .ref m17, .ref m18, .ref m19])), (m0, .inl (cI, 380, .inl S)), (m9, .inl (cI, 124, .inl ST9_28))] H := hP
          have hD : va_D AA [(h, .inr (6, [.ref m0, .ref m1, .ref m2, .int i3, .ref m4, .int (nI q2), .int (nI o9_27), .int (nI c9_26), .int (nI u), .ref m9, .ref m10, .ref m11, .int (nI tn), .ref m13, .int (nI sp), .int (nI pt), .ref m16, .ref m17, .ref m18, .ref m19])), (m0, .inl (cI, 380, .inl S)), (m9, .inl (cI, 124, .inl ST9_28))] := hD
          refine lv_if_ne (tgt := 53) hx hb dX6_compared_48 (by decide) (fun c48_31 => ?_) (fun c48_31 => ?_)
          · have c48_31 := bI_n0.mp c48_31
            obtain ⟨hgd2, hge2, hgf2⟩ := hgc2 c48_31
            obtain ⟨he2, hE2, ho2⟩ := hx9_30 c48_31
            subst he2; subst hE2; subst ho2
            refine lv_aload_n hx hb dX6_compared_53 rfl (lv_at hl 1 rfl) ?_
            refine lv_iconst (v := nI 3) hx hb dX6_compared_54 (by decide) ?_
            refine lv_iload_n hx hb dX6_compared_55 rfl (lv_at hl 0 rfl) ?_
            refine zcv (wr := [(m0, .inl (cI, 380, .inl S))]) (va_runV (As := [.int (nI 3), .int (nI (T q1))]) (rest := []) ⟨hx, hb, hml, hown, hts⟩ (c_X6_step1 l D cI cJ h m0 m1 m2 m4 m9 m10 m11 m13 m16 m17 m18 m19 i3 tn sp pt u q2 1 ((c + t1.length + t2.length)) (zap2 u (zap2 u ST c t1) (c + t1.length) t2) 3 (nI (T q1)) (by omega) H.size) (cwV 2 hts gX6_compared_X6_step1 rfl rfl rfl (by decide +kernel) ⟨Nat.le_of_ble_eq_true rfl, Nat.le_of_ble_eq_true rfl⟩) (zpV hK hN hZ hP hD hS hA [0, 2] rfl (by decide) 0 rfl rfl rfl) rfl rfl hl.1 rfl (lv_room (Nat.le_of_ble_eq_true rfl)) dX6_compared_56 ⟨Nat.zero_le _, Nat.zero_le _⟩) hP hD hS hA [0, 2] [1] rfl rfl (by decide) (by decide) (fun w_33 H locs h_32 hP hD hS => ?_)
            obtain rfl := h_32
            have hP : va_P D vwCl [(m0, .inl (cI, 380, .inl S)), (h, .inr (6, [.ref m0, .ref m1, .ref m2, .int i3, .ref m4, .int (nI q2), .int (nI 1), .int (nI ((((c + t1.length + t2.length)) + 1))), .int (nI u), .ref m9, .ref m10, .ref m11, .int (nI tn), .ref m13, .int (nI sp), .int (nI pt), .ref m16, .ref m17, .ref m18, .ref m19])), (m9, .inl (cI, 124, .inl ((upd (upd (zap2 u (zap2 u ST c t1) (c + t1.length) t2) (2 * ((c + t1.length + t2.length))) (nI 3)) (2 * ((c + t1.length + t2.length)) + 1) (nI (T q1))))))] H := hP
            have hD : va_D AA [(m0, .inl (cI, 380, .inl S)), (h, .inr (6, [.ref m0, .ref m1, .ref m2, .int i3, .ref m4, .int (nI q2), .int (nI 1), .int (nI ((((c + t1.length + t2.length)) + 1))), .int (nI u), .ref m9, .ref m10, .ref m11, .int (nI tn), .ref m13, .int (nI sp), .int (nI pt), .ref m16, .ref m17, .ref m18, .ref m19])), (m9, .inl (cI, 124, .inl ((upd (upd (zap2 u (zap2 u ST c t1) (c + t1.length) t2) (2 * ((c + t1.length + t2.length))) (nI 3)) (2 * ((c + t1.length + t2.length)) + 1) (nI (T q1))))))] := hD
            refine lv_iconst (v := nI 1) hx hb dX6_compared_59 (by decide) ?_
            have hP := hP.sub (ws' := [(h, .inr (6, [.ref m0, .ref m1, .ref m2, .int i3, .ref m4, .int (nI q2), .int (nI 1), .int (nI ((((c + t1.length + t2.length)) + 1))), .int (nI u), .ref m9, .ref m10, .ref m11, .int (nI tn), .ref m13, .int (nI sp), .int (nI pt), .ref m16, .ref m17, .ref m18, .ref m19])), (m0, .inl (cI, 380, .inl S)), (m9, .inl (cI, 124, .inl ((upd (upd (zap2 u (zap2 u ST c t1) (c + t1.length) t2) (2 * ((c + t1.length + t2.length))) (nI 3)) (2 * ((c + t1.length + t2.length)) + 1) (nI (T q1))))))]) [1, 0, 2] rfl
            have hD := hD.sub (ws' := [(h, .inr (6, [.ref m0, .ref m1, .ref m2, .int i3, .ref m4, .int (nI q2), .int (nI 1), .int (nI ((((c + t1.length + t2.length)) + 1))), .int (nI u), .ref m9, .ref m10, .ref m11, .int (nI tn), .ref m13, .int (nI sp), .int (nI pt), .ref m16, .ref m17, .ref m18, .ref m19])), (m0, .inl (cI, 380, .inl S)), (m9, .inl (cI, 124, .inl ((upd (upd (zap2 u (zap2 u ST c t1) (c + t1.length) t2) (2 * ((c + t1.length + t2.length))) (nI 3)) (2 * ((c + t1.length + t2.length)) + 1) (nI (T q1))))))]) [1, 0, 2] (by decide) rfl
            exact hret hP hD hS dX6_compared_60 rfl (by obtain ⟨e1, e2, e3⟩ := zL2 hz ⟨by omega, zlv_2.mpr (by omega)⟩ hR2 (by assumption); subst e1; subst e2; subst e3; exact ⟨_, _, _, show c + t1.length + t2.length + 1 ≤ _ from (by omega), fun _ => ⟨zlen1, zap21 (t := (3, T q1)), rfl⟩, (bI_t rfl).symm, rfl⟩)
          · have c48_31 := bI_0.mp c48_31
            refine lv_iconst (v := nI 0) hx hb dX6_compared_51 (by decide) ?_
            exact hret hP hD hS dX6_compared_52 rfl (by obtain ⟨e1, e2⟩ := zLf hz ⟨by omega, zlv_2.mpr (by omega)⟩ hR2 (by assumption); subst e1; subst e2; exact ⟨_, _, _, hq9_29, fun h9 => (by cases h9), (bI_f (by decide)).symm, rfl⟩)
        · have c23_22 : ¬ ((T q1) = 61) := fun h9 => c23_22 ((nI_eq (a := T q1) (b := 61) (by have h91 := hT q1 (by omega); omega) (by have h91 := hT q1 (by omega); omega)).mpr h9)
          refine lv_iload_n hx hb dX6_compared_26 rfl (lv_at hl 0 rfl) ?_
          refine lv_bipush (v := nI 62) hx hb dX6_compared_27 (by decide) ?_
          refine lv_icmp_eq (tgt := 34) hx hb dX6_compared_29 (by decide) (fun c29_34 => ?_) (fun c29_34 => ?_)
          · have c29_34 : (T q1) = 62 := (nI_eq (a := T q1) (b := 62) (by have h91 := hT q1 (by omega); omega) (by have h91 := hT q1 (by omega); omega)).mp c29_34
            refine lv_aload_n hx hb dX6_compared_34 rfl (lv_at hl 1 rfl) ?_
            refine lv_dup hx hb dX6_compared_35 rfl ?_
            refine va_get (ci := 6) (v := .int (nI q1)) (C := RX6) (T := TX6) (N := 20) hx hb hts hin6 hown hK hP 0 rfl rfl 5 (by decide) (hts (.fieldLink RX6 61 "UpAllRoundModel" "at" "I") (List.mem_of_getElem? (i := 1) rfl)) (fun _ h9 => h9) rfl dX6_compared_36 ?_
            refine lv_iconst (v := nI 1) hx hb dX6_compared_39 (by decide) ?_
            refine lv_iadd hx hb dX6_compared_40 ?_
            refine zrw (nI_add _ _) ?_
            refine va_put (ci := 6) (v := .int (nI (q1 + 1))) (ty := .int) (C := RX6) (T := TX6) (N := 20) hx hb hts hin6 tyX6 tyX6_ok nmX6 hown hK hP hD hS 0 rfl rfl 5 (by decide) (hts (.fieldLink RX6 61 "UpAllRoundModel" "at" "I") (List.mem_of_getElem? (i := 1) rfl)) (fun _ h9 => h9) rfl (by decide +kernel) rfl rfl (Nat.le_of_ble_eq_true rfl) dX6_compared_41 (fun H locs hP hD hS => ?_)
            have hP : va_P D vwCl [(h, .inr (6, [.ref m0, .ref m1, .ref m2, .int i3, .ref m4, .int (nI (q1 + 1)), .int (nI 1), .int (nI ((c + t1.length))), .int (nI u), .ref m9, .ref m10, .ref m11, .int (nI tn), .ref m13, .int (nI sp), .int (nI pt), .ref m16, .ref m17, .ref m18, .ref m19])), (m0, .inl (cI, 380, .inl S)), (m9, .inl (cI, 124, .inl (zap2 u ST c t1)))] H := hP
            have hD : va_D AA [(h, .inr (6, [.ref m0, .ref m1, .ref m2, .int i3, .ref m4, .int (nI (q1 + 1)), .int (nI 1), .int (nI ((c + t1.length))), .int (nI u), .ref m9, .ref m10, .ref m11, .int (nI tn), .ref m13, .int (nI sp), .int (nI pt), .ref m16, .ref m17, .ref m18, .ref m19])), (m0, .inl (cI, 380, .inl S)), (m9, .inl (cI, 124, .inl (zap2 u ST c t1)))] := hD
            refine lv_aload_n hx hb dX6_compared_44 rfl (lv_at hl 1 rfl) ?_
            obtain ⟨b2, q2, t2, hR2⟩ : ∃ (b0 : Bool) (q0 : Nat) (t0 : zTks), zLS T L (zQ T L u 4) 2 (q1 + 1) = (b0, q0, t0) := ⟨_, _, _, rfl⟩
            have hg2 := (zLS_gd (T := T) (zQ_gd (T := T) (L := L) (u := u) 4) 2) (q1 + 1) (by omega)
            rw [hR2] at hg2
            obtain ⟨hga2, hgb2, hgc2⟩ : (q1 + 1) ≤ q2 ∧ q2 ≤ L ∧ (b2 = true → (q1 + 1) < q2 ∧ t2.length ≤ q2 - (q1 + 1) ∧ zw1 t2) := hg2
            refine zci (wr := []) (va_runV (As := []) (rest := []) ⟨hx, hb, hml, hown, hts⟩ (c_X6_sum_1 l D cI cJ h m0 m1 m2 m4 m9 m10 m11 m13 m16 m17 m18 m19 i3 tn sp pt S (zap2 u ST c t1) L u T (q1 + 1) ((c + t1.length)) b2 q2 t2 (by first | rfl | assumption | omega) (by first | rfl | assumption | omega) (by first | rfl | assumption | omega) (by first | rfl | assumption | omega) (by first | rfl | assumption | omega) (by omega) (by omega) hR2 H.size) (cwV 0 hts gX6_compared_X6_sum rfl rfl rfl (by decide +kernel) ⟨Nat.le_of_ble_eq_true rfl, Nat.le_of_ble_eq_true rfl⟩) (zpV hK hN hZ hP hD hS hA [0, 1, 2] rfl (by decide) 0 rfl rfl rfl) rfl rfl hl.1 rfl (lv_room (Nat.le_of_ble_eq_true rfl)) dX6_compared_45 ⟨Nat.zero_le _, Nat.zero_le _⟩) hP hD hS hA [0, 1, 2] [] rfl rfl (by decide) (by decide) (fun r_37 w_36 H locs h_35 hP hD hS => ?_)
            obtain ⟨c9_38, o9_39, ST9_40, hq9_41, hx9_42, rfl, rfl⟩ := h_35
            have hP : va_P D vwCl [(h, .inr (6, [.ref m0, .ref m1, .ref m2, .int i3, .ref m4, .int (nI q2), .int (nI o9_39), .int (nI c9_38), .int (nI u), .ref m9, .ref m10, .ref m11, .int (nI tn), .ref m13, .int (nI sp), .int (nI pt), .ref m16, .ref m17, .ref m18, .ref m19])), (m0, .inl (cI, 380, .inl S)), (m9, .inl (cI, 124, .inl ST9_40))] H := hP
            have hD : va_D AA [(h, .inr (6, [.ref m0, .ref m1, .ref m2, .int i3, .ref m4, .int (nI q2), .int (nI o9_39), .int (nI c9_38), .int (nI u), .ref m9, .ref m10, .ref m11, .int (nI tn), .ref m13, .int (nI sp), .int (nI pt), .ref m16, .ref m17, .ref m18, .ref m19])), (m0, .inl (cI, 380, .inl S)), (m9, .inl (cI, 124, .inl ST9_40))] := hD
            refine lv_if_ne (tgt := 53) hx hb dX6_compared_48 (by decide) (fun c48_43 => ?_) (fun c48_43 => ?_)
            · have c48_43 := bI_n0.mp c48_43
              obtain ⟨hgd2, hge2, hgf2⟩ := hgc2 c48_43
              obtain ⟨he2, hE2, ho2⟩ := hx9_42 c48_43
              subst he2; subst hE2; subst ho2
              refine lv_aload_n hx hb dX6_compared_53 rfl (lv_at hl 1 rfl) ?_
              refine lv_iconst (v := nI 3) hx hb dX6_compared_54 (by decide) ?_
              refine lv_iload_n hx hb dX6_compared_55 rfl (lv_at hl 0 rfl) ?_
              refine zcv (wr := [(m0, .inl (cI, 380, .inl S))]) (va_runV (As := [.int (nI 3), .int (nI (T q1))]) (rest := []) ⟨hx, hb, hml, hown, hts⟩ (c_X6_step1 l D cI cJ h m0 m1 m2 m4 m9 m10 m11 m13 m16 m17 m18 m19 i3 tn sp pt u q2 1 ((c + t1.length + t2.length)) (zap2 u (zap2 u ST c t1) (c + t1.length) t2) 3 (nI (T q1)) (by omega) H.size) (cwV 2 hts gX6_compared_X6_step1 rfl rfl rfl (by decide +kernel) ⟨Nat.le_of_ble_eq_true rfl, Nat.le_of_ble_eq_true rfl⟩) (zpV hK hN hZ hP hD hS hA [0, 2] rfl (by decide) 0 rfl rfl rfl) rfl rfl hl.1 rfl (lv_room (Nat.le_of_ble_eq_true rfl)) dX6_compared_56 ⟨Nat.zero_le _, Nat.zero_le _⟩) hP hD hS hA [0, 2] [1] rfl rfl (by decide) (by decide) (fun w_45 H locs h_44 hP hD hS => ?_)
              obtain rfl := h_44
              have hP : va_P D vwCl [(m0, .inl (cI, 380, .inl S)), (h, .inr (6, [.ref m0, .ref m1, .ref m2, .int i3, .ref m4, .int (nI q2), .int (nI 1), .int (nI ((((c + t1.length + t2.length)) + 1))), .int (nI u), .ref m9, .ref m10, .ref m11, .int (nI tn), .ref m13, .int (nI sp), .int (nI pt), .ref m16, .ref m17, .ref m18, .ref m19])), (m9, .inl (cI, 124, .inl ((upd (upd (zap2 u (zap2 u ST c t1) (c + t1.length) t2) (2 * ((c + t1.length + t2.length))) (nI 3)) (2 * ((c + t1.length + t2.length)) + 1) (nI (T q1))))))] H := hP
              have hD : va_D AA [(m0, .inl (cI, 380, .inl S)), (h, .inr (6, [.ref m0, .ref m1, .ref m2, .int i3, .ref m4, .int (nI q2), .int (nI 1), .int (nI ((((c + t1.length + t2.length)) + 1))), .int (nI u), .ref m9, .ref m10, .ref m11, .int (nI tn), .ref m13, .int (nI sp), .int (nI pt), .ref m16, .ref m17, .ref m18, .ref m19])), (m9, .inl (cI, 124, .inl ((upd (upd (zap2 u (zap2 u ST c t1) (c + t1.length) t2) (2 * ((c + t1.length + t2.length))) (nI 3)) (2 * ((c + t1.length + t2.length)) + 1) (nI (T q1))))))] := hD
              refine lv_iconst (v := nI 1) hx hb dX6_compared_59 (by decide) ?_
              have hP := hP.sub (ws' := [(h, .inr (6, [.ref m0, .ref m1, .ref m2, .int i3, .ref m4, .int (nI q2), .int (nI 1), .int (nI ((((c + t1.length + t2.length)) + 1))), .int (nI u), .ref m9, .ref m10, .ref m11, .int (nI tn), .ref m13, .int (nI sp), .int (nI pt), .ref m16, .ref m17, .ref m18, .ref m19])), (m0, .inl (cI, 380, .inl S)), (m9, .inl (cI, 124, .inl ((upd (upd (zap2 u (zap2 u ST c t1) (c + t1.length) t2) (2 * ((c + t1.length + t2.length))) (nI 3)) (2 * ((c + t1.length + t2.length)) + 1) (nI (T q1))))))]) [1, 0, 2] rfl
              have hD := hD.sub (ws' := [(h, .inr (6, [.ref m0, .ref m1, .ref m2, .int i3, .ref m4, .int (nI q2), .int (nI 1), .int (nI ((((c + t1.length + t2.length)) + 1))), .int (nI u), .ref m9, .ref m10, .ref m11, .int (nI tn), .ref m13, .int (nI sp), .int (nI pt), .ref m16, .ref m17, .ref m18, .ref m19])), (m0, .inl (cI, 380, .inl S)), (m9, .inl (cI, 124, .inl ((upd (upd (zap2 u (zap2 u ST c t1) (c + t1.length) t2) (2 * ((c + t1.length + t2.length))) (nI 3)) (2 * ((c + t1.length + t2.length)) + 1) (nI (T q1))))))]) [1, 0, 2] (by decide) rfl
              exact hret hP hD hS dX6_compared_60 rfl (by obtain ⟨e1, e2, e3⟩ := zL2 hz ⟨by omega, zlv_2.mpr (by omega)⟩ hR2 (by assumption); subst e1; subst e2; subst e3; exact ⟨_, _, _, show c + t1.length + t2.length + 1 ≤ _ from (by omega), fun _ => ⟨zlen1, zap21 (t := (3, T q1)), rfl⟩, (bI_t rfl).symm, rfl⟩)
            · have c48_43 := bI_0.mp c48_43
              refine lv_iconst (v := nI 0) hx hb dX6_compared_51 (by decide) ?_
              exact hret hP hD hS dX6_compared_52 rfl (by obtain ⟨e1, e2⟩ := zLf hz ⟨by omega, zlv_2.mpr (by omega)⟩ hR2 (by assumption); subst e1; subst e2; exact ⟨_, _, _, hq9_41, fun h9 => (by cases h9), (bI_f (by decide)).symm, rfl⟩)
          · have c29_34 : ¬ ((T q1) = 62) := fun h9 => c29_34 ((nI_eq (a := T q1) (b := 62) (by have h91 := hT q1 (by omega); omega) (by have h91 := hT q1 (by omega); omega)).mpr h9)
            refine lv_iconst (v := nI 1) hx hb dX6_compared_32 (by decide) ?_
            exact hret hP hD hS dX6_compared_33 rfl (by obtain ⟨e1, e2, e3⟩ := zLe (f := 60) hz (fun h9 => by have h91 := h9.1; have h92 := zlv_2.mp h9.2; omega); subst e1; subst e2; subst e3; exact ⟨_, _, _, (by omega), fun _ => ⟨rfl, rfl, rfl⟩, (bI_t rfl).symm, rfl⟩)
    · refine zcsE (va_runV (As := []) (rest := []) ⟨hx, hb, hml, hown, hts⟩ (c_X6_look l D cI cJ h m0 m1 m2 m4 m9 m10 m11 m13 m16 m17 m18 m19 i3 tn sp pt S ST L u T q1 ((c + t1.length)) 1 (by first | rfl | assumption | omega) (by first | rfl | assumption | omega) (by first | rfl | assumption | omega) (by first | rfl | assumption | omega) (by first | rfl | assumption | omega) (by omega) H.size) (cwV 0 hts gX6_compared_X6_look rfl rfl rfl (by decide +kernel) ⟨Nat.le_of_ble_eq_true rfl, Nat.le_of_ble_eq_true rfl⟩) (zpV hK hN hZ hP hD hS hA [0, 1] rfl (by decide) 0 rfl rfl rfl) rfl rfl hl.1 rfl (lv_room (Nat.le_of_ble_eq_true rfl)) dX6_compared_10 ⟨Nat.zero_le _, Nat.zero_le _⟩) ?_
      refine zrw (if_neg hpL) ?_
      refine lv_istore_n (lv' := [(1, .int ((-1))), (0, .ref h)]) hx hb dX6_compared_13 rfl hl (by decide) rfl (fun ls hl => ?_)
      refine lv_iload_n hx hb dX6_compared_14 rfl (lv_at hl 0 rfl) ?_
      refine lv_bipush (v := nI 60) hx hb dX6_compared_15 (by decide) ?_
      refine lv_icmp_eq (tgt := 34) hx hb dX6_compared_17 (by decide) (fun c17_46 => ?_) (fun c17_46 => ?_)
      · exact absurd c17_46 (by decide)
      · refine lv_iload_n hx hb dX6_compared_20 rfl (lv_at hl 0 rfl) ?_
        refine lv_bipush (v := nI 61) hx hb dX6_compared_21 (by decide) ?_
        refine lv_icmp_eq (tgt := 34) hx hb dX6_compared_23 (by decide) (fun c23_47 => ?_) (fun c23_47 => ?_)
        · exact absurd c23_47 (by decide)
        · refine lv_iload_n hx hb dX6_compared_26 rfl (lv_at hl 0 rfl) ?_
          refine lv_bipush (v := nI 62) hx hb dX6_compared_27 (by decide) ?_
          refine lv_icmp_eq (tgt := 34) hx hb dX6_compared_29 (by decide) (fun c29_48 => ?_) (fun c29_48 => ?_)
          · exact absurd c29_48 (by decide)
          · refine lv_iconst (v := nI 1) hx hb dX6_compared_32 (by decide) ?_
            exact hret hP hD hS dX6_compared_33 rfl (by obtain ⟨e1, e2, e3⟩ := zLe (f := 60) hz (fun h9 => by have h91 := h9.1; have h92 := zlv_2.mp h9.2; omega); subst e1; subst e2; subst e3; exact ⟨_, _, _, (by omega), fun _ => ⟨rfl, rfl, rfl⟩, (bI_t rfl).symm, rfl⟩)
  · have c4_9 := bI_0.mp c4_9
    refine lv_iconst (v := nI 0) hx hb dX6_compared_7 (by decide) ?_
    exact hret hP hD hS dX6_compared_8 rfl (by obtain ⟨e1, e2⟩ := zLv_ff hR hR1 (by assumption); subst e1; subst e2; exact ⟨_, _, _, hq9_7, fun h9 => (by cases h9), (bI_f (by decide)).symm, rfl⟩)
set_option maxHeartbeats 4000000 in
set_option maxRecDepth 100000 in
theorem c_X6_both_1 (l : Launch) (D : va_G) (cI cJ : ClassId) (h : Nat) (m0 : Nat) (m1 : Nat) (m2 : Nat) (m4 : Nat) (m9 : Nat) (m10 : Nat) (m11 : Nat) (m13 : Nat) (m16 : Nat) (m17 : Nat) (m18 : Nat) (m19 : Nat) (i3 : Int32) (tn : Nat) (sp : Nat) (pt : Nat) (S : Nat → Int32) (ST : Nat → Int32) (L : Nat) (u : Nat) (T : Nat → Nat) (p : Nat) (c : Nat) (b : Bool) (q : Nat) (tl : zTks) (hL : L ≤ 60) (hu1 : u ≤ 1) (hT : ∀ i, i < L → T i < 256) (htb : ∀ i, i < L → S (296 + i) = nI (T i)) (hS4 : S 4 = nI L) (hp : p ≤ L) (hcp : c ≤ p) (hR : zLS T L (zQ T L u 4) 4 p = (b, q, tl)) : zMi l yX6_both wsX6_both ({ frames := 29, cells := 0, slots := 0, locals := 612 } : Room) D [(cI, .int), (cJ, .array .int)] [.ref h] [(h, .inr (6, [.ref m0, .ref m1, .ref m2, .int i3, .ref m4, .int (nI p), .int (nI 1), .int (nI c), .int (nI u), .ref m9, .ref m10, .ref m11, .int (nI tn), .ref m13, .int (nI sp), .int (nI pt), .ref m16, .ref m17, .ref m18, .ref m19])), (m0, .inl (cI, 380, .inl S)), (m9, .inl (cI, 124, .inl ST))] (fun r w => ∃ (c9 o9 : Nat) (ST9 : Nat → Int32), c9 ≤ q ∧ (b = true → c9 = c + tl.length ∧ ST9 = zap2 u ST c tl ∧ o9 = 1) ∧ r = bI (b = true) ∧ w = [(h, .inr (6, [.ref m0, .ref m1, .ref m2, .int i3, .ref m4, .int (nI q), .int (nI o9), .int (nI c9), .int (nI u), .ref m9, .ref m10, .ref m11, .int (nI tn), .ref m13, .int (nI sp), .int (nI pt), .ref m16, .ref m17, .ref m18, .ref m19])), (m0, .inl (cI, 380, .inl S)), (m9, .inl (cI, 124, .inl ST9))]) := by
  refine zMi.start (cc := cX6_both) (maxL := 1) (rt := .boolean) (by first | decide | decide +kernel) rfl (Nat.le_of_ble_eq_true rfl) ?_
  intro pg ev s mt args below meth cd ls AA QQ ⟨hx, hb, hml, hr, hlocks, hown, hts, hK, hN, hZ, hP, hD, hA, hS, hl⟩ hret
  have hown : s.vm.findClass RX6 = some mt.cls := hown
  have hl : lv_has ls 1 [(0, .ref h)] := hl
  have hin6 : ∀ w ∈ wsX60, w ∈ wsX6_both := fun w h => List.mem_cons_of_mem _ (List.mem_append_right _ (h))
  have hR : zLv T L 1 (zLS T L (zQ T L u 4) 3) p = (b, q, tl) := hR
  obtain ⟨b1, q1, t1, hR1⟩ : ∃ (b0 : Bool) (q0 : Nat) (t0 : zTks), zLS T L (zQ T L u 4) 3 p = (b0, q0, t0) := ⟨_, _, _, rfl⟩
  have hg1 := (zLS_gd (T := T) (zQ_gd (T := T) (L := L) (u := u) 4) 3) p (by omega)
  rw [hR1] at hg1
  obtain ⟨hga1, hgb1, hgc1⟩ : p ≤ q1 ∧ q1 ≤ L ∧ (b1 = true → p < q1 ∧ t1.length ≤ q1 - p ∧ zw1 t1) := hg1
  refine lv_aload_n hx hb dX6_both_0 rfl (lv_at hl 0 rfl) ?_
  refine zci (wr := []) (va_runV (As := []) (rest := []) ⟨hx, hb, hml, hown, hts⟩ (c_X6_compared_1 l D cI cJ h m0 m1 m2 m4 m9 m10 m11 m13 m16 m17 m18 m19 i3 tn sp pt S ST L u T p c b1 q1 t1 (by first | rfl | assumption | omega) (by first | rfl | assumption | omega) (by first | rfl | assumption | omega) (by first | rfl | assumption | omega) (by first | rfl | assumption | omega) (by first | rfl | assumption | omega) (by first | rfl | assumption | omega) hR1 s.heap.size) (cwV 0 hts gX6_both_X6_compared rfl rfl rfl (by decide +kernel) ⟨Nat.le_of_ble_eq_true rfl, Nat.le_of_ble_eq_true rfl⟩) (zpV hK hN hZ hP hD hS hA [0, 1, 2] rfl (by decide) 0 rfl rfl rfl) rfl rfl hl.1 rfl (lv_room (Nat.le_of_ble_eq_true rfl)) dX6_both_1 ⟨Nat.zero_le _, Nat.zero_le _⟩) hP hD hS hA [0, 1, 2] [] rfl rfl (by decide) (by decide) (fun r_3 w_2 H locs h_1 hP hD hS => ?_)
  obtain ⟨c9_4, o9_5, ST9_6, hq9_7, hx9_8, rfl, rfl⟩ := h_1
  have hP : va_P D vwCl [(h, .inr (6, [.ref m0, .ref m1, .ref m2, .int i3, .ref m4, .int (nI q1), .int (nI o9_5), .int (nI c9_4), .int (nI u), .ref m9, .ref m10, .ref m11, .int (nI tn), .ref m13, .int (nI sp), .int (nI pt), .ref m16, .ref m17, .ref m18, .ref m19])), (m0, .inl (cI, 380, .inl S)), (m9, .inl (cI, 124, .inl ST9_6))] H := hP
  have hD : va_D AA [(h, .inr (6, [.ref m0, .ref m1, .ref m2, .int i3, .ref m4, .int (nI q1), .int (nI o9_5), .int (nI c9_4), .int (nI u), .ref m9, .ref m10, .ref m11, .int (nI tn), .ref m13, .int (nI sp), .int (nI pt), .ref m16, .ref m17, .ref m18, .ref m19])), (m0, .inl (cI, 380, .inl S)), (m9, .inl (cI, 124, .inl ST9_6))] := hD
  refine lv_if_ne (tgt := 9) hx hb dX6_both_4 (by decide) (fun c4_9 => ?_) (fun c4_9 => ?_)
  · have c4_9 := bI_n0.mp c4_9
    obtain ⟨hgd1, hge1, hgf1⟩ := hgc1 c4_9
    obtain ⟨he1, hE1, ho1⟩ := hx9_8 c4_9
    subst he1; subst hE1; subst ho1
    have hz := zLv_tt hR hR1 c4_9
    have L_9 : ∀ (fu : Nat) (f : Nat) (pv : Nat) (ta : zTks) (hn : f < fu) (hz : zct ta (zLp T L 1 (zLS T L (zQ T L u 4) 3) f pv) = (b, q, tl)) (hf : L - pv < f) (hpv : pv ≤ L) (hca : c + ta.length ≤ pv), ∀ (ls : Array Slot), lv_has ls 1 [(0, .ref h)] → ∀ (H : Heap) (locs : List Loc), va_P D vwCl [(h, .inr (6, [.ref m0, .ref m1, .ref m2, .int i3, .ref m4, .int (nI pv), .int (nI 1), .int (nI ((c + ta.length))), .int (nI u), .ref m9, .ref m10, .ref m11, .int (nI tn), .ref m13, .int (nI sp), .int (nI pt), .ref m16, .ref m17, .ref m18, .ref m19])), (m0, .inl (cI, 380, .inl S)), (m9, .inl (cI, 124, .inl (zap2 u ST c ta)))] H → va_D AA [(h, .inr (6, [.ref m0, .ref m1, .ref m2, .int i3, .ref m4, .int (nI pv), .int (nI 1), .int (nI ((c + ta.length))), .int (nI u), .ref m9, .ref m10, .ref m11, .int (nI tn), .ref m13, .int (nI sp), .int (nI pt), .ref m16, .ref m17, .ref m18, .ref m19])), (m0, .inl (cI, 380, .inl S)), (m9, .inl (cI, 124, .inl (zap2 u ST c ta)))] → va_S AA s.heap H locs → W pg l ev ({ frames := 29, cells := 0, slots := 0, locals := 612 } : Room) s mt args below meth cd H locs 0 0 QQ (F0 mt 9 ls []) := by
      intro fu
      induction fu with
      | zero =>
        intro  f pv ta  hn
        exact absurd hn (by omega)
      | succ fu ih_9 =>
        intro  f pv ta  hn hz hf hpv hca ls hl H locs hP hD hS
        obtain ⟨f1, rfl⟩ : ∃ f1, f = f1 + 1 := ⟨f - 1, by omega⟩
        refine lv_aload_n hx hb dX6_both_9 rfl (lv_at hl 0 rfl) ?_
        by_cases hpL : pv < L
        · refine zcsE (va_runV (As := []) (rest := []) ⟨hx, hb, hml, hown, hts⟩ (c_X6_look l D cI cJ h m0 m1 m2 m4 m9 m10 m11 m13 m16 m17 m18 m19 i3 tn sp pt S ST L u T pv ((c + ta.length)) 1 (by first | rfl | assumption | omega) (by first | rfl | assumption | omega) (by first | rfl | assumption | omega) (by first | rfl | assumption | omega) (by first | rfl | assumption | omega) (by omega) H.size) (cwV 0 hts gX6_both_X6_look rfl rfl rfl (by decide +kernel) ⟨Nat.le_of_ble_eq_true rfl, Nat.le_of_ble_eq_true rfl⟩) (zpV hK hN hZ hP hD hS hA [0, 1] rfl (by decide) 0 rfl rfl rfl) rfl rfl hl.1 rfl (lv_room (Nat.le_of_ble_eq_true rfl)) dX6_both_10 ⟨Nat.zero_le _, Nat.zero_le _⟩) ?_
          refine zrw (if_pos hpL) ?_
          refine lv_bipush (v := nI 38) hx hb dX6_both_13 (by decide) ?_
          refine lv_icmp_ne (tgt := 47) hx hb dX6_both_15 (by decide) (fun c15_10 => ?_) (fun c15_10 => ?_)
          · have c15_10 : ¬ ((T pv) = 38) := fun h9 => c15_10 ((nI_eq (a := T pv) (b := 38) (by have h91 := hT pv (by omega); omega) (by have h91 := hT pv (by omega); omega)).mpr h9)
            refine lv_iconst (v := nI 1) hx hb dX6_both_47 (by decide) ?_
            exact hret hP hD hS dX6_both_48 rfl (by obtain ⟨e1, e2, e3⟩ := zLe (f := f1) hz (fun h9 => by have h91 := h9.1; have h92 := zlv_1.mp h9.2; omega); subst e1; subst e2; subst e3; exact ⟨_, _, _, (by omega), fun _ => ⟨rfl, rfl, rfl⟩, (bI_t rfl).symm, rfl⟩)
          · have c15_10 : (T pv) = 38 := (nI_eq (a := T pv) (b := 38) (by have h91 := hT pv (by omega); omega) (by have h91 := hT pv (by omega); omega)).mp c15_10
            refine lv_aload_n hx hb dX6_both_18 rfl (lv_at hl 0 rfl) ?_
            refine lv_dup hx hb dX6_both_19 rfl ?_
            refine va_get (ci := 6) (v := .int (nI pv)) (C := RX6) (T := TX6) (N := 20) hx hb hts hin6 hown hK hP 0 rfl rfl 5 (by decide) (hts (.fieldLink RX6 61 "UpAllRoundModel" "at" "I") (List.mem_of_getElem? (i := 1) rfl)) (fun _ h9 => h9) rfl dX6_both_20 ?_
            refine lv_iconst (v := nI 1) hx hb dX6_both_23 (by decide) ?_
            refine lv_iadd hx hb dX6_both_24 ?_
            refine zrw (nI_add _ _) ?_
            refine va_put (ci := 6) (v := .int (nI (pv + 1))) (ty := .int) (C := RX6) (T := TX6) (N := 20) hx hb hts hin6 tyX6 tyX6_ok nmX6 hown hK hP hD hS 0 rfl rfl 5 (by decide) (hts (.fieldLink RX6 61 "UpAllRoundModel" "at" "I") (List.mem_of_getElem? (i := 1) rfl)) (fun _ h9 => h9) rfl (by decide +kernel) rfl rfl (Nat.le_of_ble_eq_true rfl) dX6_both_25 (fun H locs hP hD hS => ?_)
            have hP : va_P D vwCl [(h, .inr (6, [.ref m0, .ref m1, .ref m2, .int i3, .ref m4, .int (nI (pv + 1)), .int (nI 1), .int (nI ((c + ta.length))), .int (nI u), .ref m9, .ref m10, .ref m11, .int (nI tn), .ref m13, .int (nI sp), .int (nI pt), .ref m16, .ref m17, .ref m18, .ref m19])), (m0, .inl (cI, 380, .inl S)), (m9, .inl (cI, 124, .inl (zap2 u ST c ta)))] H := hP
            have hD : va_D AA [(h, .inr (6, [.ref m0, .ref m1, .ref m2, .int i3, .ref m4, .int (nI (pv + 1)), .int (nI 1), .int (nI ((c + ta.length))), .int (nI u), .ref m9, .ref m10, .ref m11, .int (nI tn), .ref m13, .int (nI sp), .int (nI pt), .ref m16, .ref m17, .ref m18, .ref m19])), (m0, .inl (cI, 380, .inl S)), (m9, .inl (cI, 124, .inl (zap2 u ST c ta)))] := hD
            refine lv_aload_n hx hb dX6_both_28 rfl (lv_at hl 0 rfl) ?_
            obtain ⟨b2, q2, t2, hR2⟩ : ∃ (b0 : Bool) (q0 : Nat) (t0 : zTks), zLS T L (zQ T L u 4) 3 (pv + 1) = (b0, q0, t0) := ⟨_, _, _, rfl⟩
            have hg2 := (zLS_gd (T := T) (zQ_gd (T := T) (L := L) (u := u) 4) 3) (pv + 1) (by omega)
            rw [hR2] at hg2
            obtain ⟨hga2, hgb2, hgc2⟩ : (pv + 1) ≤ q2 ∧ q2 ≤ L ∧ (b2 = true → (pv + 1) < q2 ∧ t2.length ≤ q2 - (pv + 1) ∧ zw1 t2) := hg2
            refine zci (wr := []) (va_runV (As := []) (rest := []) ⟨hx, hb, hml, hown, hts⟩ (c_X6_compared_1 l D cI cJ h m0 m1 m2 m4 m9 m10 m11 m13 m16 m17 m18 m19 i3 tn sp pt S (zap2 u ST c ta) L u T (pv + 1) ((c + ta.length)) b2 q2 t2 (by first | rfl | assumption | omega) (by first | rfl | assumption | omega) (by first | rfl | assumption | omega) (by first | rfl | assumption | omega) (by first | rfl | assumption | omega) (by omega) (by omega) hR2 H.size) (cwV 0 hts gX6_both_X6_compared rfl rfl rfl (by decide +kernel) ⟨Nat.le_of_ble_eq_true rfl, Nat.le_of_ble_eq_true rfl⟩) (zpV hK hN hZ hP hD hS hA [0, 1, 2] rfl (by decide) 0 rfl rfl rfl) rfl rfl hl.1 rfl (lv_room (Nat.le_of_ble_eq_true rfl)) dX6_both_29 ⟨Nat.zero_le _, Nat.zero_le _⟩) hP hD hS hA [0, 1, 2] [] rfl rfl (by decide) (by decide) (fun r_13 w_12 H locs h_11 hP hD hS => ?_)
            obtain ⟨c9_14, o9_15, ST9_16, hq9_17, hx9_18, rfl, rfl⟩ := h_11
            have hP : va_P D vwCl [(h, .inr (6, [.ref m0, .ref m1, .ref m2, .int i3, .ref m4, .int (nI q2), .int (nI o9_15), .int (nI c9_14), .int (nI u), .ref m9, .ref m10, .ref m11, .int (nI tn), .ref m13, .int (nI sp), .int (nI pt), .ref m16, .ref m17, .ref m18, .ref m19])), (m0, .inl (cI, 380, .inl S)), (m9, .inl (cI, 124, .inl ST9_16))] H := hP
            have hD : va_D AA [(h, .inr (6, [.ref m0, .ref m1, .ref m2, .int i3, .ref m4, .int (nI q2), .int (nI o9_15), .int (nI c9_14), .int (nI u), .ref m9, .ref m10, .ref m11, .int (nI tn), .ref m13, .int (nI sp), .int (nI pt), .ref m16, .ref m17, .ref m18, .ref m19])), (m0, .inl (cI, 380, .inl S)), (m9, .inl (cI, 124, .inl ST9_16))] := hD
            refine lv_if_ne (tgt := 37) hx hb dX6_both_32 (by decide) (fun c32_19 => ?_) (fun c32_19 => ?_)
            · have c32_19 := bI_n0.mp c32_19
              obtain ⟨hgd2, hge2, hgf2⟩ := hgc2 c32_19
              obtain ⟨he2, hE2, ho2⟩ := hx9_18 c32_19
              subst he2; subst hE2; subst ho2
              refine lv_aload_n hx hb dX6_both_37 rfl (lv_at hl 0 rfl) ?_
              refine lv_iconst (v := nI 3) hx hb dX6_both_38 (by decide) ?_
              refine lv_bipush (v := nI 38) hx hb dX6_both_39 (by decide) ?_
              refine zrw (congrArg nI (show 38 = T pv by omega)) ?_
              refine zcv (wr := [(m0, .inl (cI, 380, .inl S))]) (va_runV (As := [.int (nI 3), .int (nI (T pv))]) (rest := []) ⟨hx, hb, hml, hown, hts⟩ (c_X6_step1 l D cI cJ h m0 m1 m2 m4 m9 m10 m11 m13 m16 m17 m18 m19 i3 tn sp pt u q2 1 ((c + ta.length + t2.length)) (zap2 u (zap2 u ST c ta) (c + ta.length) t2) 3 (nI (T pv)) (by omega) H.size) (cwV 2 hts gX6_both_X6_step1 rfl rfl rfl (by decide +kernel) ⟨Nat.le_of_ble_eq_true rfl, Nat.le_of_ble_eq_true rfl⟩) (zpV hK hN hZ hP hD hS hA [0, 2] rfl (by decide) 0 rfl rfl rfl) rfl rfl hl.1 rfl (lv_room (Nat.le_of_ble_eq_true rfl)) dX6_both_41 ⟨Nat.zero_le _, Nat.zero_le _⟩) hP hD hS hA [0, 2] [1] rfl rfl (by decide) (by decide) (fun w_21 H locs h_20 hP hD hS => ?_)
              obtain rfl := h_20
              have hP : va_P D vwCl [(m0, .inl (cI, 380, .inl S)), (h, .inr (6, [.ref m0, .ref m1, .ref m2, .int i3, .ref m4, .int (nI q2), .int (nI 1), .int (nI ((((c + ta.length + t2.length)) + 1))), .int (nI u), .ref m9, .ref m10, .ref m11, .int (nI tn), .ref m13, .int (nI sp), .int (nI pt), .ref m16, .ref m17, .ref m18, .ref m19])), (m9, .inl (cI, 124, .inl ((upd (upd (zap2 u (zap2 u ST c ta) (c + ta.length) t2) (2 * ((c + ta.length + t2.length))) (nI 3)) (2 * ((c + ta.length + t2.length)) + 1) (nI (T pv))))))] H := hP
              have hD : va_D AA [(m0, .inl (cI, 380, .inl S)), (h, .inr (6, [.ref m0, .ref m1, .ref m2, .int i3, .ref m4, .int (nI q2), .int (nI 1), .int (nI ((((c + ta.length + t2.length)) + 1))), .int (nI u), .ref m9, .ref m10, .ref m11, .int (nI tn), .ref m13, .int (nI sp), .int (nI pt), .ref m16, .ref m17, .ref m18, .ref m19])), (m9, .inl (cI, 124, .inl ((upd (upd (zap2 u (zap2 u ST c ta) (c + ta.length) t2) (2 * ((c + ta.length + t2.length))) (nI 3)) (2 * ((c + ta.length + t2.length)) + 1) (nI (T pv))))))] := hD
              refine lv_goto (tgt := 9) hx hb dX6_both_44 (by decide) ?_
              rw [zap23, zlen1 (t := (3, T pv))] at hP hD
              exact ih_9   f1 q2 ((ta ++ (t2 ++ [(3, T pv)]))) (by omega) (zLt (by decide) hz ⟨by omega, zlv_1.mpr (by omega)⟩ hR2 (by assumption)) (by omega) (by omega) (by rw [← zlen1]; omega) ls (lv_sub hl [0] rfl) H locs (hP.sub [1, 0, 2] rfl) (hD.sub [1, 0, 2] (by decide) rfl) hS
            · have c32_19 := bI_0.mp c32_19
              refine lv_iconst (v := nI 0) hx hb dX6_both_35 (by decide) ?_
              exact hret hP hD hS dX6_both_36 rfl (by obtain ⟨e1, e2⟩ := zLf hz ⟨by omega, zlv_1.mpr (by omega)⟩ hR2 (by assumption); subst e1; subst e2; exact ⟨_, _, _, hq9_17, fun h9 => (by cases h9), (bI_f (by decide)).symm, rfl⟩)
        · refine zcsE (va_runV (As := []) (rest := []) ⟨hx, hb, hml, hown, hts⟩ (c_X6_look l D cI cJ h m0 m1 m2 m4 m9 m10 m11 m13 m16 m17 m18 m19 i3 tn sp pt S ST L u T pv ((c + ta.length)) 1 (by first | rfl | assumption | omega) (by first | rfl | assumption | omega) (by first | rfl | assumption | omega) (by first | rfl | assumption | omega) (by first | rfl | assumption | omega) (by omega) H.size) (cwV 0 hts gX6_both_X6_look rfl rfl rfl (by decide +kernel) ⟨Nat.le_of_ble_eq_true rfl, Nat.le_of_ble_eq_true rfl⟩) (zpV hK hN hZ hP hD hS hA [0, 1] rfl (by decide) 0 rfl rfl rfl) rfl rfl hl.1 rfl (lv_room (Nat.le_of_ble_eq_true rfl)) dX6_both_10 ⟨Nat.zero_le _, Nat.zero_le _⟩) ?_
          refine zrw (if_neg hpL) ?_
          refine lv_bipush (v := nI 38) hx hb dX6_both_13 (by decide) ?_
          refine lv_icmp_ne (tgt := 47) hx hb dX6_both_15 (by decide) (fun c15_22 => ?_) (fun c15_22 => ?_)
          · refine lv_iconst (v := nI 1) hx hb dX6_both_47 (by decide) ?_
            exact hret hP hD hS dX6_both_48 rfl (by obtain ⟨e1, e2, e3⟩ := zLe (f := f1) hz (fun h9 => by have h91 := h9.1; have h92 := zlv_1.mp h9.2; omega); subst e1; subst e2; subst e3; exact ⟨_, _, _, (by omega), fun _ => ⟨rfl, rfl, rfl⟩, (bI_t rfl).symm, rfl⟩)
          · exact absurd c15_22 (by decide)
    exact L_9 62  61 q1 t1 (by omega) hz (by omega) (by omega) (by omega) ls (lv_sub hl [0] rfl) _ _ hP hD hS
  · have c4_9 := bI_0.mp c4_9
    refine lv_iconst (v := nI 0) hx hb dX6_both_7 (by decide) ?_
    exact hret hP hD hS dX6_both_8 rfl (by obtain ⟨e1, e2⟩ := zLv_ff hR hR1 (by assumption); subst e1; subst e2; exact ⟨_, _, _, hq9_7, fun h9 => (by cases h9), (bI_f (by decide)).symm, rfl⟩)
set_option maxHeartbeats 4000000 in
set_option maxRecDepth 100000 in
theorem c_X6_whole_1 (l : Launch) (D : va_G) (cI cJ : ClassId) (h : Nat) (m0 : Nat) (m1 : Nat) (m2 : Nat) (m4 : Nat) (m9 : Nat) (m10 : Nat) (m11 : Nat) (m13 : Nat) (m16 : Nat) (m17 : Nat) (m18 : Nat) (m19 : Nat) (i3 : Int32) (tn : Nat) (sp : Nat) (pt : Nat) (S : Nat → Int32) (ST : Nat → Int32) (L : Nat) (u : Nat) (T : Nat → Nat) (p : Nat) (c : Nat) (b : Bool) (q : Nat) (tl : zTks) (hL : L ≤ 60) (hu1 : u ≤ 1) (hT : ∀ i, i < L → T i < 256) (htb : ∀ i, i < L → S (296 + i) = nI (T i)) (hS4 : S 4 = nI L) (hp : p ≤ L) (hcp : c ≤ p) (hR : zLS T L (zQ T L u 4) 5 p = (b, q, tl)) : zMi l yX6_whole wsX6_whole ({ frames := 30, cells := 0, slots := 0, locals := 632 } : Room) D [(cI, .int), (cJ, .array .int)] [.ref h] [(h, .inr (6, [.ref m0, .ref m1, .ref m2, .int i3, .ref m4, .int (nI p), .int (nI 1), .int (nI c), .int (nI u), .ref m9, .ref m10, .ref m11, .int (nI tn), .ref m13, .int (nI sp), .int (nI pt), .ref m16, .ref m17, .ref m18, .ref m19])), (m0, .inl (cI, 380, .inl S)), (m9, .inl (cI, 124, .inl ST))] (fun r w => ∃ (c9 o9 : Nat) (ST9 : Nat → Int32), c9 ≤ q ∧ (b = true → c9 = c + tl.length ∧ ST9 = zap2 u ST c tl ∧ o9 = 1) ∧ r = bI (b = true) ∧ w = [(h, .inr (6, [.ref m0, .ref m1, .ref m2, .int i3, .ref m4, .int (nI q), .int (nI o9), .int (nI c9), .int (nI u), .ref m9, .ref m10, .ref m11, .int (nI tn), .ref m13, .int (nI sp), .int (nI pt), .ref m16, .ref m17, .ref m18, .ref m19])), (m0, .inl (cI, 380, .inl S)), (m9, .inl (cI, 124, .inl ST9))]) := by
  refine zMi.start (cc := cX6_whole) (maxL := 1) (rt := .boolean) (by first | decide | decide +kernel) rfl (Nat.le_of_ble_eq_true rfl) ?_
  intro pg ev s mt args below meth cd ls AA QQ ⟨hx, hb, hml, hr, hlocks, hown, hts, hK, hN, hZ, hP, hD, hA, hS, hl⟩ hret
  have hown : s.vm.findClass RX6 = some mt.cls := hown
  have hl : lv_has ls 1 [(0, .ref h)] := hl
  have hin6 : ∀ w ∈ wsX60, w ∈ wsX6_whole := fun w h => List.mem_cons_of_mem _ (List.mem_append_right _ (h))
  have hR : zLv T L 0 (zLS T L (zQ T L u 4) 4) p = (b, q, tl) := hR
  obtain ⟨b1, q1, t1, hR1⟩ : ∃ (b0 : Bool) (q0 : Nat) (t0 : zTks), zLS T L (zQ T L u 4) 4 p = (b0, q0, t0) := ⟨_, _, _, rfl⟩
  have hg1 := (zLS_gd (T := T) (zQ_gd (T := T) (L := L) (u := u) 4) 4) p (by omega)
  rw [hR1] at hg1
  obtain ⟨hga1, hgb1, hgc1⟩ : p ≤ q1 ∧ q1 ≤ L ∧ (b1 = true → p < q1 ∧ t1.length ≤ q1 - p ∧ zw1 t1) := hg1
  refine lv_aload_n hx hb dX6_whole_0 rfl (lv_at hl 0 rfl) ?_
  refine zci (wr := []) (va_runV (As := []) (rest := []) ⟨hx, hb, hml, hown, hts⟩ (c_X6_both_1 l D cI cJ h m0 m1 m2 m4 m9 m10 m11 m13 m16 m17 m18 m19 i3 tn sp pt S ST L u T p c b1 q1 t1 (by first | rfl | assumption | omega) (by first | rfl | assumption | omega) (by first | rfl | assumption | omega) (by first | rfl | assumption | omega) (by first | rfl | assumption | omega) (by first | rfl | assumption | omega) (by first | rfl | assumption | omega) hR1 s.heap.size) (cwV 0 hts gX6_whole_X6_both rfl rfl rfl (by decide +kernel) ⟨Nat.le_of_ble_eq_true rfl, Nat.le_of_ble_eq_true rfl⟩) (zpV hK hN hZ hP hD hS hA [0, 1, 2] rfl (by decide) 0 rfl rfl rfl) rfl rfl hl.1 rfl (lv_room (Nat.le_of_ble_eq_true rfl)) dX6_whole_1 ⟨Nat.zero_le _, Nat.zero_le _⟩) hP hD hS hA [0, 1, 2] [] rfl rfl (by decide) (by decide) (fun r_3 w_2 H locs h_1 hP hD hS => ?_)
  obtain ⟨c9_4, o9_5, ST9_6, hq9_7, hx9_8, rfl, rfl⟩ := h_1
  have hP : va_P D vwCl [(h, .inr (6, [.ref m0, .ref m1, .ref m2, .int i3, .ref m4, .int (nI q1), .int (nI o9_5), .int (nI c9_4), .int (nI u), .ref m9, .ref m10, .ref m11, .int (nI tn), .ref m13, .int (nI sp), .int (nI pt), .ref m16, .ref m17, .ref m18, .ref m19])), (m0, .inl (cI, 380, .inl S)), (m9, .inl (cI, 124, .inl ST9_6))] H := hP
  have hD : va_D AA [(h, .inr (6, [.ref m0, .ref m1, .ref m2, .int i3, .ref m4, .int (nI q1), .int (nI o9_5), .int (nI c9_4), .int (nI u), .ref m9, .ref m10, .ref m11, .int (nI tn), .ref m13, .int (nI sp), .int (nI pt), .ref m16, .ref m17, .ref m18, .ref m19])), (m0, .inl (cI, 380, .inl S)), (m9, .inl (cI, 124, .inl ST9_6))] := hD
  refine lv_if_ne (tgt := 9) hx hb dX6_whole_4 (by decide) (fun c4_9 => ?_) (fun c4_9 => ?_)
  · have c4_9 := bI_n0.mp c4_9
    obtain ⟨hgd1, hge1, hgf1⟩ := hgc1 c4_9
    obtain ⟨he1, hE1, ho1⟩ := hx9_8 c4_9
    subst he1; subst hE1; subst ho1
    have hz := zLv_tt hR hR1 c4_9
    have L_9 : ∀ (fu : Nat) (f : Nat) (pv : Nat) (ta : zTks) (hn : f < fu) (hz : zct ta (zLp T L 0 (zLS T L (zQ T L u 4) 4) f pv) = (b, q, tl)) (hf : L - pv < f) (hpv : pv ≤ L) (hca : c + ta.length ≤ pv), ∀ (ls : Array Slot), lv_has ls 1 [(0, .ref h)] → ∀ (H : Heap) (locs : List Loc), va_P D vwCl [(h, .inr (6, [.ref m0, .ref m1, .ref m2, .int i3, .ref m4, .int (nI pv), .int (nI 1), .int (nI ((c + ta.length))), .int (nI u), .ref m9, .ref m10, .ref m11, .int (nI tn), .ref m13, .int (nI sp), .int (nI pt), .ref m16, .ref m17, .ref m18, .ref m19])), (m0, .inl (cI, 380, .inl S)), (m9, .inl (cI, 124, .inl (zap2 u ST c ta)))] H → va_D AA [(h, .inr (6, [.ref m0, .ref m1, .ref m2, .int i3, .ref m4, .int (nI pv), .int (nI 1), .int (nI ((c + ta.length))), .int (nI u), .ref m9, .ref m10, .ref m11, .int (nI tn), .ref m13, .int (nI sp), .int (nI pt), .ref m16, .ref m17, .ref m18, .ref m19])), (m0, .inl (cI, 380, .inl S)), (m9, .inl (cI, 124, .inl (zap2 u ST c ta)))] → va_S AA s.heap H locs → W pg l ev ({ frames := 30, cells := 0, slots := 0, locals := 632 } : Room) s mt args below meth cd H locs 0 0 QQ (F0 mt 9 ls []) := by
      intro fu
      induction fu with
      | zero =>
        intro  f pv ta  hn
        exact absurd hn (by omega)
      | succ fu ih_9 =>
        intro  f pv ta  hn hz hf hpv hca ls hl H locs hP hD hS
        obtain ⟨f1, rfl⟩ : ∃ f1, f = f1 + 1 := ⟨f - 1, by omega⟩
        refine lv_aload_n hx hb dX6_whole_9 rfl (lv_at hl 0 rfl) ?_
        by_cases hpL : pv < L
        · refine zcsE (va_runV (As := []) (rest := []) ⟨hx, hb, hml, hown, hts⟩ (c_X6_look l D cI cJ h m0 m1 m2 m4 m9 m10 m11 m13 m16 m17 m18 m19 i3 tn sp pt S ST L u T pv ((c + ta.length)) 1 (by first | rfl | assumption | omega) (by first | rfl | assumption | omega) (by first | rfl | assumption | omega) (by first | rfl | assumption | omega) (by first | rfl | assumption | omega) (by omega) H.size) (cwV 0 hts gX6_whole_X6_look rfl rfl rfl (by decide +kernel) ⟨Nat.le_of_ble_eq_true rfl, Nat.le_of_ble_eq_true rfl⟩) (zpV hK hN hZ hP hD hS hA [0, 1] rfl (by decide) 0 rfl rfl rfl) rfl rfl hl.1 rfl (lv_room (Nat.le_of_ble_eq_true rfl)) dX6_whole_10 ⟨Nat.zero_le _, Nat.zero_le _⟩) ?_
          refine zrw (if_pos hpL) ?_
          refine lv_bipush (v := nI 124) hx hb dX6_whole_13 (by decide) ?_
          refine lv_icmp_ne (tgt := 47) hx hb dX6_whole_15 (by decide) (fun c15_10 => ?_) (fun c15_10 => ?_)
          · have c15_10 : ¬ ((T pv) = 124) := fun h9 => c15_10 ((nI_eq (a := T pv) (b := 124) (by have h91 := hT pv (by omega); omega) (by have h91 := hT pv (by omega); omega)).mpr h9)
            refine lv_iconst (v := nI 1) hx hb dX6_whole_47 (by decide) ?_
            exact hret hP hD hS dX6_whole_48 rfl (by obtain ⟨e1, e2, e3⟩ := zLe (f := f1) hz (fun h9 => by have h91 := h9.1; have h92 := zlv_0.mp h9.2; omega); subst e1; subst e2; subst e3; exact ⟨_, _, _, (by omega), fun _ => ⟨rfl, rfl, rfl⟩, (bI_t rfl).symm, rfl⟩)
          · have c15_10 : (T pv) = 124 := (nI_eq (a := T pv) (b := 124) (by have h91 := hT pv (by omega); omega) (by have h91 := hT pv (by omega); omega)).mp c15_10
            refine lv_aload_n hx hb dX6_whole_18 rfl (lv_at hl 0 rfl) ?_
            refine lv_dup hx hb dX6_whole_19 rfl ?_
            refine va_get (ci := 6) (v := .int (nI pv)) (C := RX6) (T := TX6) (N := 20) hx hb hts hin6 hown hK hP 0 rfl rfl 5 (by decide) (hts (.fieldLink RX6 61 "UpAllRoundModel" "at" "I") (List.mem_of_getElem? (i := 1) rfl)) (fun _ h9 => h9) rfl dX6_whole_20 ?_
            refine lv_iconst (v := nI 1) hx hb dX6_whole_23 (by decide) ?_
            refine lv_iadd hx hb dX6_whole_24 ?_
            refine zrw (nI_add _ _) ?_
            refine va_put (ci := 6) (v := .int (nI (pv + 1))) (ty := .int) (C := RX6) (T := TX6) (N := 20) hx hb hts hin6 tyX6 tyX6_ok nmX6 hown hK hP hD hS 0 rfl rfl 5 (by decide) (hts (.fieldLink RX6 61 "UpAllRoundModel" "at" "I") (List.mem_of_getElem? (i := 1) rfl)) (fun _ h9 => h9) rfl (by decide +kernel) rfl rfl (Nat.le_of_ble_eq_true rfl) dX6_whole_25 (fun H locs hP hD hS => ?_)
            have hP : va_P D vwCl [(h, .inr (6, [.ref m0, .ref m1, .ref m2, .int i3, .ref m4, .int (nI (pv + 1)), .int (nI 1), .int (nI ((c + ta.length))), .int (nI u), .ref m9, .ref m10, .ref m11, .int (nI tn), .ref m13, .int (nI sp), .int (nI pt), .ref m16, .ref m17, .ref m18, .ref m19])), (m0, .inl (cI, 380, .inl S)), (m9, .inl (cI, 124, .inl (zap2 u ST c ta)))] H := hP
            have hD : va_D AA [(h, .inr (6, [.ref m0, .ref m1, .ref m2, .int i3, .ref m4, .int (nI (pv + 1)), .int (nI 1), .int (nI ((c + ta.length))), .int (nI u), .ref m9, .ref m10, .ref m11, .int (nI tn), .ref m13, .int (nI sp), .int (nI pt), .ref m16, .ref m17, .ref m18, .ref m19])), (m0, .inl (cI, 380, .inl S)), (m9, .inl (cI, 124, .inl (zap2 u ST c ta)))] := hD
            refine lv_aload_n hx hb dX6_whole_28 rfl (lv_at hl 0 rfl) ?_
            obtain ⟨b2, q2, t2, hR2⟩ : ∃ (b0 : Bool) (q0 : Nat) (t0 : zTks), zLS T L (zQ T L u 4) 4 (pv + 1) = (b0, q0, t0) := ⟨_, _, _, rfl⟩
            have hg2 := (zLS_gd (T := T) (zQ_gd (T := T) (L := L) (u := u) 4) 4) (pv + 1) (by omega)
            rw [hR2] at hg2
            obtain ⟨hga2, hgb2, hgc2⟩ : (pv + 1) ≤ q2 ∧ q2 ≤ L ∧ (b2 = true → (pv + 1) < q2 ∧ t2.length ≤ q2 - (pv + 1) ∧ zw1 t2) := hg2
            refine zci (wr := []) (va_runV (As := []) (rest := []) ⟨hx, hb, hml, hown, hts⟩ (c_X6_both_1 l D cI cJ h m0 m1 m2 m4 m9 m10 m11 m13 m16 m17 m18 m19 i3 tn sp pt S (zap2 u ST c ta) L u T (pv + 1) ((c + ta.length)) b2 q2 t2 (by first | rfl | assumption | omega) (by first | rfl | assumption | omega) (by first | rfl | assumption | omega) (by first | rfl | assumption | omega) (by first | rfl | assumption | omega) (by omega) (by omega) hR2 H.size) (cwV 0 hts gX6_whole_X6_both rfl rfl rfl (by decide +kernel) ⟨Nat.le_of_ble_eq_true rfl, Nat.le_of_ble_eq_true rfl⟩) (zpV hK hN hZ hP hD hS hA [0, 1, 2] rfl (by decide) 0 rfl rfl rfl) rfl rfl hl.1 rfl (lv_room (Nat.le_of_ble_eq_true rfl)) dX6_whole_29 ⟨Nat.zero_le _, Nat.zero_le _⟩) hP hD hS hA [0, 1, 2] [] rfl rfl (by decide) (by decide) (fun r_13 w_12 H locs h_11 hP hD hS => ?_)
            obtain ⟨c9_14, o9_15, ST9_16, hq9_17, hx9_18, rfl, rfl⟩ := h_11
            have hP : va_P D vwCl [(h, .inr (6, [.ref m0, .ref m1, .ref m2, .int i3, .ref m4, .int (nI q2), .int (nI o9_15), .int (nI c9_14), .int (nI u), .ref m9, .ref m10, .ref m11, .int (nI tn), .ref m13, .int (nI sp), .int (nI pt), .ref m16, .ref m17, .ref m18, .ref m19])), (m0, .inl (cI, 380, .inl S)), (m9, .inl (cI, 124, .inl ST9_16))] H := hP
            have hD : va_D AA [(h, .inr (6, [.ref m0, .ref m1, .ref m2, .int i3, .ref m4, .int (nI q2), .int (nI o9_15), .int (nI c9_14), .int (nI u), .ref m9, .ref m10, .ref m11, .int (nI tn), .ref m13, .int (nI sp), .int (nI pt), .ref m16, .ref m17, .ref m18, .ref m19])), (m0, .inl (cI, 380, .inl S)), (m9, .inl (cI, 124, .inl ST9_16))] := hD
            refine lv_if_ne (tgt := 37) hx hb dX6_whole_32 (by decide) (fun c32_19 => ?_) (fun c32_19 => ?_)
            · have c32_19 := bI_n0.mp c32_19
              obtain ⟨hgd2, hge2, hgf2⟩ := hgc2 c32_19
              obtain ⟨he2, hE2, ho2⟩ := hx9_18 c32_19
              subst he2; subst hE2; subst ho2
              refine lv_aload_n hx hb dX6_whole_37 rfl (lv_at hl 0 rfl) ?_
              refine lv_iconst (v := nI 3) hx hb dX6_whole_38 (by decide) ?_
              refine lv_bipush (v := nI 124) hx hb dX6_whole_39 (by decide) ?_
              refine zrw (congrArg nI (show 124 = T pv by omega)) ?_
              refine zcv (wr := [(m0, .inl (cI, 380, .inl S))]) (va_runV (As := [.int (nI 3), .int (nI (T pv))]) (rest := []) ⟨hx, hb, hml, hown, hts⟩ (c_X6_step1 l D cI cJ h m0 m1 m2 m4 m9 m10 m11 m13 m16 m17 m18 m19 i3 tn sp pt u q2 1 ((c + ta.length + t2.length)) (zap2 u (zap2 u ST c ta) (c + ta.length) t2) 3 (nI (T pv)) (by omega) H.size) (cwV 2 hts gX6_whole_X6_step1 rfl rfl rfl (by decide +kernel) ⟨Nat.le_of_ble_eq_true rfl, Nat.le_of_ble_eq_true rfl⟩) (zpV hK hN hZ hP hD hS hA [0, 2] rfl (by decide) 0 rfl rfl rfl) rfl rfl hl.1 rfl (lv_room (Nat.le_of_ble_eq_true rfl)) dX6_whole_41 ⟨Nat.zero_le _, Nat.zero_le _⟩) hP hD hS hA [0, 2] [1] rfl rfl (by decide) (by decide) (fun w_21 H locs h_20 hP hD hS => ?_)
              obtain rfl := h_20
              have hP : va_P D vwCl [(m0, .inl (cI, 380, .inl S)), (h, .inr (6, [.ref m0, .ref m1, .ref m2, .int i3, .ref m4, .int (nI q2), .int (nI 1), .int (nI ((((c + ta.length + t2.length)) + 1))), .int (nI u), .ref m9, .ref m10, .ref m11, .int (nI tn), .ref m13, .int (nI sp), .int (nI pt), .ref m16, .ref m17, .ref m18, .ref m19])), (m9, .inl (cI, 124, .inl ((upd (upd (zap2 u (zap2 u ST c ta) (c + ta.length) t2) (2 * ((c + ta.length + t2.length))) (nI 3)) (2 * ((c + ta.length + t2.length)) + 1) (nI (T pv))))))] H := hP
              have hD : va_D AA [(m0, .inl (cI, 380, .inl S)), (h, .inr (6, [.ref m0, .ref m1, .ref m2, .int i3, .ref m4, .int (nI q2), .int (nI 1), .int (nI ((((c + ta.length + t2.length)) + 1))), .int (nI u), .ref m9, .ref m10, .ref m11, .int (nI tn), .ref m13, .int (nI sp), .int (nI pt), .ref m16, .ref m17, .ref m18, .ref m19])), (m9, .inl (cI, 124, .inl ((upd (upd (zap2 u (zap2 u ST c ta) (c + ta.length) t2) (2 * ((c + ta.length + t2.length))) (nI 3)) (2 * ((c + ta.length + t2.length)) + 1) (nI (T pv))))))] := hD
              refine lv_goto (tgt := 9) hx hb dX6_whole_44 (by decide) ?_
              rw [zap23, zlen1 (t := (3, T pv))] at hP hD
              exact ih_9   f1 q2 ((ta ++ (t2 ++ [(3, T pv)]))) (by omega) (zLt (by decide) hz ⟨by omega, zlv_0.mpr (by omega)⟩ hR2 (by assumption)) (by omega) (by omega) (by rw [← zlen1]; omega) ls (lv_sub hl [0] rfl) H locs (hP.sub [1, 0, 2] rfl) (hD.sub [1, 0, 2] (by decide) rfl) hS
            · have c32_19 := bI_0.mp c32_19
              refine lv_iconst (v := nI 0) hx hb dX6_whole_35 (by decide) ?_
              exact hret hP hD hS dX6_whole_36 rfl (by obtain ⟨e1, e2⟩ := zLf hz ⟨by omega, zlv_0.mpr (by omega)⟩ hR2 (by assumption); subst e1; subst e2; exact ⟨_, _, _, hq9_17, fun h9 => (by cases h9), (bI_f (by decide)).symm, rfl⟩)
        · refine zcsE (va_runV (As := []) (rest := []) ⟨hx, hb, hml, hown, hts⟩ (c_X6_look l D cI cJ h m0 m1 m2 m4 m9 m10 m11 m13 m16 m17 m18 m19 i3 tn sp pt S ST L u T pv ((c + ta.length)) 1 (by first | rfl | assumption | omega) (by first | rfl | assumption | omega) (by first | rfl | assumption | omega) (by first | rfl | assumption | omega) (by first | rfl | assumption | omega) (by omega) H.size) (cwV 0 hts gX6_whole_X6_look rfl rfl rfl (by decide +kernel) ⟨Nat.le_of_ble_eq_true rfl, Nat.le_of_ble_eq_true rfl⟩) (zpV hK hN hZ hP hD hS hA [0, 1] rfl (by decide) 0 rfl rfl rfl) rfl rfl hl.1 rfl (lv_room (Nat.le_of_ble_eq_true rfl)) dX6_whole_10 ⟨Nat.zero_le _, Nat.zero_le _⟩) ?_
          refine zrw (if_neg hpL) ?_
          refine lv_bipush (v := nI 124) hx hb dX6_whole_13 (by decide) ?_
          refine lv_icmp_ne (tgt := 47) hx hb dX6_whole_15 (by decide) (fun c15_22 => ?_) (fun c15_22 => ?_)
          · refine lv_iconst (v := nI 1) hx hb dX6_whole_47 (by decide) ?_
            exact hret hP hD hS dX6_whole_48 rfl (by obtain ⟨e1, e2, e3⟩ := zLe (f := f1) hz (fun h9 => by have h91 := h9.1; have h92 := zlv_0.mp h9.2; omega); subst e1; subst e2; subst e3; exact ⟨_, _, _, (by omega), fun _ => ⟨rfl, rfl, rfl⟩, (bI_t rfl).symm, rfl⟩)
          · exact absurd c15_22 (by decide)
    exact L_9 62  61 q1 t1 (by omega) hz (by omega) (by omega) (by omega) ls (lv_sub hl [0] rfl) _ _ hP hD hS
  · have c4_9 := bI_0.mp c4_9
    refine lv_iconst (v := nI 0) hx hb dX6_whole_7 (by decide) ?_
    exact hret hP hD hS dX6_whole_8 rfl (by obtain ⟨e1, e2⟩ := zLv_ff hR hR1 (by assumption); subst e1; subst e2; exact ⟨_, _, _, hq9_7, fun h9 => (by cases h9), (bI_f (by decide)).symm, rfl⟩)
set_option maxHeartbeats 4000000 in
set_option maxRecDepth 100000 in
theorem c_X6_one_0 (l : Launch) (D : va_G) (cI cJ : ClassId) (h : Nat) (m0 : Nat) (m1 : Nat) (m2 : Nat) (m4 : Nat) (m9 : Nat) (m10 : Nat) (m11 : Nat) (m13 : Nat) (m16 : Nat) (m17 : Nat) (m18 : Nat) (m19 : Nat) (i3 : Int32) (tn : Nat) (sp : Nat) (pt : Nat) (S : Nat → Int32) (ST : Nat → Int32) (L : Nat) (u : Nat) (T : Nat → Nat) (p : Nat) (c : Nat) (b : Bool) (q : Nat) (tl : zTks) (hL : L ≤ 60) (hu1 : u ≤ 1) (hT : ∀ i, i < L → T i < 256) (htb : ∀ i, i < L → S (296 + i) = nI (T i)) (hS4 : S 4 = nI L) (hp : p ≤ L) (hcp : c ≤ p) (hR : zLS T L (zQ T L u 5) 0 p = (b, q, tl)) : zMi l yX6_one wsX6_one ({ frames := 31, cells := 0, slots := 0, locals := 652 } : Room) D [(cI, .int), (cJ, .array .int)] [.ref h] [(h, .inr (6, [.ref m0, .ref m1, .ref m2, .int i3, .ref m4, .int (nI p), .int (nI 0), .int (nI c), .int (nI u), .ref m9, .ref m10, .ref m11, .int (nI tn), .ref m13, .int (nI sp), .int (nI pt), .ref m16, .ref m17, .ref m18, .ref m19])), (m0, .inl (cI, 380, .inl S)), (m9, .inl (cI, 124, .inl ST))] (fun r w => ∃ (c9 o9 : Nat) (ST9 : Nat → Int32), c9 ≤ q ∧ (b = true → c9 = c + tl.length ∧ ST9 = zap2 u ST c tl ∧ o9 = 0) ∧ r = bI (b = true) ∧ w = [(h, .inr (6, [.ref m0, .ref m1, .ref m2, .int i3, .ref m4, .int (nI q), .int (nI o9), .int (nI c9), .int (nI u), .ref m9, .ref m10, .ref m11, .int (nI tn), .ref m13, .int (nI sp), .int (nI pt), .ref m16, .ref m17, .ref m18, .ref m19])), (m0, .inl (cI, 380, .inl S)), (m9, .inl (cI, 124, .inl ST9))]) := by
  refine zMi.start (cc := cX6_one) (maxL := 4) (rt := .boolean) (by first | decide | decide +kernel) rfl (Nat.le_of_ble_eq_true rfl) ?_
  intro pg ev s mt args below meth cd ls AA QQ ⟨hx, hb, hml, hr, hlocks, hown, hts, hK, hN, hZ, hP, hD, hA, hS, hl⟩ hret
  have hown : s.vm.findClass RX6 = some mt.cls := hown
  have hl : lv_has ls 4 [(0, .ref h)] := hl
  have hin6 : ∀ w ∈ wsX60, w ∈ wsX6_one := fun w h => List.mem_cons_of_mem _ (List.mem_append_right _ (h))
  have hR : zQb T L u true (zQ T L u 4) (zLS T L (zQ T L u 4) 5) p = (b, q, tl) := hR
  refine lv_aload_n hx hb dX6_one_0 rfl (lv_at hl 0 rfl) ?_
  by_cases hpL : p < L
  · refine zcsE (va_runV (As := []) (rest := []) ⟨hx, hb, hml, hown, hts⟩ (c_X6_look l D cI cJ h m0 m1 m2 m4 m9 m10 m11 m13 m16 m17 m18 m19 i3 tn sp pt S ST L u T p c 0 (by first | rfl | assumption | omega) (by first | rfl | assumption | omega) (by first | rfl | assumption | omega) (by first | rfl | assumption | omega) (by first | rfl | assumption | omega) (by omega) s.heap.size) (cwV 0 hts gX6_one_X6_look rfl rfl rfl (by decide +kernel) ⟨Nat.le_of_ble_eq_true rfl, Nat.le_of_ble_eq_true rfl⟩) (zpV hK hN hZ hP hD hS hA [0, 1] rfl (by decide) 0 rfl rfl rfl) rfl rfl hl.1 rfl (lv_room (Nat.le_of_ble_eq_true rfl)) dX6_one_1 ⟨Nat.zero_le _, Nat.zero_le _⟩) ?_
    refine zrw (if_pos hpL) ?_
    refine lv_istore_n (lv' := [(1, .int (nI (T p))), (0, .ref h)]) hx hb dX6_one_4 rfl hl (by decide) rfl (fun ls hl => ?_)
    refine lv_aload_n hx hb dX6_one_5 rfl (lv_at hl 1 rfl) ?_
    refine lv_iload_n hx hb dX6_one_6 rfl (lv_at hl 0 rfl) ?_
    refine zcsE (va_runV (As := [.int (nI (T p))]) (rest := []) ⟨hx, hb, hml, hown, hts⟩ (c_X6_isName l D cI cJ h m0 m1 m2 m4 m9 m10 m11 m13 m16 m17 m18 m19 i3 tn sp pt u p 0 c (T p) (by first | rfl | assumption | omega) (hT p (by omega)) s.heap.size) (cwV 1 hts gX6_one_X6_isName rfl rfl rfl (by decide +kernel) ⟨Nat.le_of_ble_eq_true rfl, Nat.le_of_ble_eq_true rfl⟩) (zpV hK hN hZ hP hD hS hA [0] rfl (by decide) 0 rfl rfl rfl) rfl rfl hl.1 rfl (lv_room (Nat.le_of_ble_eq_true rfl)) dX6_one_7 ⟨Nat.zero_le _, Nat.zero_le _⟩) ?_
    refine lv_if_eq (tgt := 31) hx hb dX6_one_10 (by decide) (fun c10_1 => ?_) (fun c10_1 => ?_)
    · have c10_1 := bI_nX0.mp c10_1
      have hnx : znx u (T p) = none := c10_1
      refine lv_iload_n hx hb dX6_one_31 rfl (lv_at hl 0 rfl) ?_
      refine lv_bipush (v := nI 48) hx hb dX6_one_32 (by decide) ?_
      refine lv_bipush (v := nI 57) hx hb dX6_one_34 (by decide) ?_
      refine zcsE (va_runS (As := [.int (nI (T p)), .int (nI 48), .int (nI 57)]) (rest := []) ⟨hx, hb, hml, hown, hts⟩ (d_X6_in l D cI cJ (nI (T p)) (nI 48) (nI 57) 48 57 (by decide) (by decide) s.heap.size) (va_cwS 3 hts gX6_one_X6_in rfl rfl rfl (by decide +kernel) ⟨Nat.le_of_ble_eq_true rfl, Nat.le_of_ble_eq_true rfl⟩) (zpS hK hN hZ hP hD hS hA [] rfl (by decide)) rfl rfl hl.1 rfl (lv_room (Nat.le_of_ble_eq_true rfl)) dX6_one_36 ⟨Nat.zero_le _, Nat.zero_le _⟩) ?_
      refine lv_if_eq (tgt := 102) hx hb dX6_one_39 (by decide) (fun c39_2 => ?_) (fun c39_2 => ?_)
      · have c39_2 := bI_0.mp c39_2
        have hdg0 : ¬ zdg (T p) := fun h9 => c39_2 ((zrg_dg (hT p (by omega))).mpr h9)
        refine lv_iload_n hx hb dX6_one_102 rfl (lv_at hl 0 rfl) ?_
        refine lv_bipush (v := nI 33) hx hb dX6_one_103 (by decide) ?_
        refine lv_icmp_ne (tgt := 142) hx hb dX6_one_105 (by decide) (fun c105_3 => ?_) (fun c105_3 => ?_)
        · have c105_3 : ¬ ((T p) = 33) := fun h9 => c105_3 ((nI_eq (a := T p) (b := 33) (by have h91 := hT p (by omega); omega) (by have h91 := hT p (by omega); omega)).mpr h9)
          refine lv_iload_n hx hb dX6_one_142 rfl (lv_at hl 0 rfl) ?_
          refine lv_bipush (v := nI 40) hx hb dX6_one_143 (by decide) ?_
          refine lv_icmp_ne (tgt := 171) hx hb dX6_one_145 (by decide) (fun c145_4 => ?_) (fun c145_4 => ?_)
          · have c145_4 : ¬ ((T p) = 40) := fun h9 => c145_4 ((nI_eq (a := T p) (b := 40) (by have h91 := hT p (by omega); omega) (by have h91 := hT p (by omega); omega)).mpr h9)
            refine lv_iconst (v := nI 0) hx hb dX6_one_171 (by decide) ?_
            exact hret hP hD hS dX6_one_172 rfl (by obtain ⟨e1, e2⟩ := zq_z hR (by omega) hdg0 hnx (fun h9 => by have h91 := h9.1; omega) (fun h9 => by have h91 := h9.1; omega); subst e1; subst e2; exact ⟨_, _, _, hcp, fun h9 => (by cases h9), (bI_f (by decide)).symm, rfl⟩)
          · have c145_4 : (T p) = 40 := (nI_eq (a := T p) (b := 40) (by have h91 := hT p (by omega); omega) (by have h91 := hT p (by omega); omega)).mp c145_4
            refine lv_aload_n hx hb dX6_one_148 rfl (lv_at hl 1 rfl) ?_
            refine zci (wr := [(m0, .inl (cI, 380, .inl S)), (m9, .inl (cI, 124, .inl ST))]) (va_runV (As := []) (rest := []) ⟨hx, hb, hml, hown, hts⟩ (c_X6_opens_0 l D cI cJ h m0 m1 m2 m4 m9 m10 m11 m13 m16 m17 m18 m19 i3 tn sp pt u p c  s.heap.size) (cwV 0 hts gX6_one_X6_opens rfl rfl rfl (by decide +kernel) ⟨Nat.le_of_ble_eq_true rfl, Nat.le_of_ble_eq_true rfl⟩) (zpV hK hN hZ hP hD hS hA [0] rfl (by decide) 0 rfl rfl rfl) rfl rfl hl.1 rfl (lv_room (Nat.le_of_ble_eq_true rfl)) dX6_one_149 ⟨Nat.zero_le _, Nat.zero_le _⟩) hP hD hS hA [0] [1, 2] rfl rfl (by decide) (by decide) (fun r_7 w_6 H locs h_5 hP hD hS => ?_)
            obtain ⟨rfl, rfl⟩ := h_5
            have hP : va_P D vwCl [(m0, .inl (cI, 380, .inl S)), (m9, .inl (cI, 124, .inl ST)), (h, .inr (6, [.ref m0, .ref m1, .ref m2, .int i3, .ref m4, .int (nI ((p + 1))), .int (nI 1), .int (nI c), .int (nI u), .ref m9, .ref m10, .ref m11, .int (nI tn), .ref m13, .int (nI sp), .int (nI pt), .ref m16, .ref m17, .ref m18, .ref m19]))] H := hP
            have hD : va_D AA [(m0, .inl (cI, 380, .inl S)), (m9, .inl (cI, 124, .inl ST)), (h, .inr (6, [.ref m0, .ref m1, .ref m2, .int i3, .ref m4, .int (nI ((p + 1))), .int (nI 1), .int (nI c), .int (nI u), .ref m9, .ref m10, .ref m11, .int (nI tn), .ref m13, .int (nI sp), .int (nI pt), .ref m16, .ref m17, .ref m18, .ref m19]))] := hD
            refine lv_if_eq (tgt := 171) hx hb dX6_one_152 (by decide) (fun c152_8 => ?_) (fun c152_8 => ?_)
            · have c152_8 : 1 = 0 := (nI_eq (a := 1) (b := 0) (by omega) (by omega)).mp c152_8
              exact absurd c152_8 (by omega)
            · have c152_8 : ¬ (1 = 0) := fun h9 => c152_8 ((nI_eq (a := 1) (b := 0) (by omega) (by omega)).mpr h9)
              obtain ⟨b1, q1, t1, hR1⟩ : ∃ (b0 : Bool) (q0 : Nat) (t0 : zTks), zLS T L (zQ T L u 4) 5 (p + 1) = (b0, q0, t0) := ⟨_, _, _, rfl⟩
              have hg1 := (zLS_gd (T := T) (zQ_gd (T := T) (L := L) (u := u) 4) 5) (p + 1) (by omega)
              rw [hR1] at hg1
              obtain ⟨hga1, hgb1, hgc1⟩ : (p + 1) ≤ q1 ∧ q1 ≤ L ∧ (b1 = true → (p + 1) < q1 ∧ t1.length ≤ q1 - (p + 1) ∧ zw1 t1) := hg1
              refine lv_aload_n hx hb dX6_one_155 rfl (lv_at hl 1 rfl) ?_
              refine zci (wr := []) (va_runV (As := []) (rest := []) ⟨hx, hb, hml, hown, hts⟩ (c_X6_whole_1 l D cI cJ h m0 m1 m2 m4 m9 m10 m11 m13 m16 m17 m18 m19 i3 tn sp pt S ST L u T ((p + 1)) c b1 q1 t1 (by first | rfl | assumption | omega) (by first | rfl | assumption | omega) (by first | rfl | assumption | omega) (by first | rfl | assumption | omega) (by first | rfl | assumption | omega) (by omega) (by omega) hR1 H.size) (cwV 0 hts gX6_one_X6_whole rfl rfl rfl (by decide +kernel) ⟨Nat.le_of_ble_eq_true rfl, Nat.le_of_ble_eq_true rfl⟩) (zpV hK hN hZ hP hD hS hA [2, 0, 1] rfl (by decide) 2 rfl rfl rfl) rfl rfl hl.1 rfl (lv_room (Nat.le_of_ble_eq_true rfl)) dX6_one_156 ⟨Nat.zero_le _, Nat.zero_le _⟩) hP hD hS hA [2, 0, 1] [] rfl rfl (by decide) (by decide) (fun r_11 w_10 H locs h_9 hP hD hS => ?_)
              obtain ⟨c9_12, o9_13, ST9_14, hq9_15, hx9_16, rfl, rfl⟩ := h_9
              have hP : va_P D vwCl [(h, .inr (6, [.ref m0, .ref m1, .ref m2, .int i3, .ref m4, .int (nI q1), .int (nI o9_13), .int (nI c9_12), .int (nI u), .ref m9, .ref m10, .ref m11, .int (nI tn), .ref m13, .int (nI sp), .int (nI pt), .ref m16, .ref m17, .ref m18, .ref m19])), (m0, .inl (cI, 380, .inl S)), (m9, .inl (cI, 124, .inl ST9_14))] H := hP
              have hD : va_D AA [(h, .inr (6, [.ref m0, .ref m1, .ref m2, .int i3, .ref m4, .int (nI q1), .int (nI o9_13), .int (nI c9_12), .int (nI u), .ref m9, .ref m10, .ref m11, .int (nI tn), .ref m13, .int (nI sp), .int (nI pt), .ref m16, .ref m17, .ref m18, .ref m19])), (m0, .inl (cI, 380, .inl S)), (m9, .inl (cI, 124, .inl ST9_14))] := hD
              refine lv_if_eq (tgt := 171) hx hb dX6_one_159 (by decide) (fun c159_17 => ?_) (fun c159_17 => ?_)
              · have c159_17 := bI_0.mp c159_17
                refine lv_iconst (v := nI 0) hx hb dX6_one_171 (by decide) ?_
                exact hret hP hD hS dX6_one_172 rfl (by obtain ⟨e1, e2⟩ := zq_pf hR (by omega) hdg0 hnx (by omega) hR1 (fun h9 => absurd h9.1 (by assumption)); subst e1; subst e2; exact ⟨_, _, _, hq9_15, fun h9 => (by cases h9), (bI_f (by decide)).symm, rfl⟩)
              · have c159_17 := bI_n0.mp c159_17
                obtain ⟨hgd1, hge1, hgf1⟩ := hgc1 c159_17
                obtain ⟨he1, hE1, ho1⟩ := hx9_16 c159_17
                subst he1; subst hE1; subst ho1
                refine lv_aload_n hx hb dX6_one_162 rfl (lv_at hl 1 rfl) ?_
                by_cases hpL : q1 < L
                · refine zcsE (va_runV (As := []) (rest := []) ⟨hx, hb, hml, hown, hts⟩ (c_X6_look l D cI cJ h m0 m1 m2 m4 m9 m10 m11 m13 m16 m17 m18 m19 i3 tn sp pt S ST L u T q1 ((c + t1.length)) 1 (by first | rfl | assumption | omega) (by first | rfl | assumption | omega) (by first | rfl | assumption | omega) (by first | rfl | assumption | omega) (by first | rfl | assumption | omega) (by omega) H.size) (cwV 0 hts gX6_one_X6_look rfl rfl rfl (by decide +kernel) ⟨Nat.le_of_ble_eq_true rfl, Nat.le_of_ble_eq_true rfl⟩) (zpV hK hN hZ hP hD hS hA [0, 1] rfl (by decide) 0 rfl rfl rfl) rfl rfl hl.1 rfl (lv_room (Nat.le_of_ble_eq_true rfl)) dX6_one_163 ⟨Nat.zero_le _, Nat.zero_le _⟩) ?_
                  refine zrw (if_pos hpL) ?_
                  refine lv_bipush (v := nI 41) hx hb dX6_one_166 (by decide) ?_
                  refine lv_icmp_eq (tgt := 173) hx hb dX6_one_168 (by decide) (fun c168_18 => ?_) (fun c168_18 => ?_)
                  · have c168_18 : (T q1) = 41 := (nI_eq (a := T q1) (b := 41) (by have h91 := hT q1 (by omega); omega) (by have h91 := hT q1 (by omega); omega)).mp c168_18
                    refine lv_aload_n hx hb dX6_one_173 rfl (lv_at hl 1 rfl) ?_
                    refine lv_dup hx hb dX6_one_174 rfl ?_
                    refine va_get (ci := 6) (v := .int (nI q1)) (C := RX6) (T := TX6) (N := 20) hx hb hts hin6 hown hK hP 0 rfl rfl 5 (by decide) (hts (.fieldLink RX6 61 "UpAllRoundModel" "at" "I") (List.mem_of_getElem? (i := 1) rfl)) (fun _ h9 => h9) rfl dX6_one_175 ?_
                    refine lv_iconst (v := nI 1) hx hb dX6_one_178 (by decide) ?_
                    refine lv_iadd hx hb dX6_one_179 ?_
                    refine zrw (nI_add _ _) ?_
                    refine va_put (ci := 6) (v := .int (nI (q1 + 1))) (ty := .int) (C := RX6) (T := TX6) (N := 20) hx hb hts hin6 tyX6 tyX6_ok nmX6 hown hK hP hD hS 0 rfl rfl 5 (by decide) (hts (.fieldLink RX6 61 "UpAllRoundModel" "at" "I") (List.mem_of_getElem? (i := 1) rfl)) (fun _ h9 => h9) rfl (by decide +kernel) rfl rfl (Nat.le_of_ble_eq_true rfl) dX6_one_180 (fun H locs hP hD hS => ?_)
                    have hP : va_P D vwCl [(h, .inr (6, [.ref m0, .ref m1, .ref m2, .int i3, .ref m4, .int (nI (q1 + 1)), .int (nI 1), .int (nI ((c + t1.length))), .int (nI u), .ref m9, .ref m10, .ref m11, .int (nI tn), .ref m13, .int (nI sp), .int (nI pt), .ref m16, .ref m17, .ref m18, .ref m19])), (m0, .inl (cI, 380, .inl S)), (m9, .inl (cI, 124, .inl (zap2 u ST c t1)))] H := hP
                    have hD : va_D AA [(h, .inr (6, [.ref m0, .ref m1, .ref m2, .int i3, .ref m4, .int (nI (q1 + 1)), .int (nI 1), .int (nI ((c + t1.length))), .int (nI u), .ref m9, .ref m10, .ref m11, .int (nI tn), .ref m13, .int (nI sp), .int (nI pt), .ref m16, .ref m17, .ref m18, .ref m19])), (m0, .inl (cI, 380, .inl S)), (m9, .inl (cI, 124, .inl (zap2 u ST c t1)))] := hD
                    refine lv_aload_n hx hb dX6_one_183 rfl (lv_at hl 1 rfl) ?_
                    refine lv_dup hx hb dX6_one_184 rfl ?_
                    refine va_get (ci := 6) (v := .int (nI 1)) (C := RX6) (T := TX6) (N := 20) hx hb hts hin6 hown hK hP 0 rfl rfl 6 (by decide) (hts (.fieldLink RX6 95 "UpAllRoundModel" "open" "I") (List.mem_of_getElem? (i := 2) rfl)) (fun _ h9 => h9) rfl dX6_one_185 ?_
                    refine lv_iconst (v := nI 1) hx hb dX6_one_188 (by decide) ?_
                    refine lv_isub hx hb dX6_one_189 ?_
                    refine zrw (pk_sub (by omega)) ?_
                    refine va_put (ci := 6) (v := .int (nI 0)) (ty := .int) (C := RX6) (T := TX6) (N := 20) hx hb hts hin6 tyX6 tyX6_ok nmX6 hown hK hP hD hS 0 rfl rfl 6 (by decide) (hts (.fieldLink RX6 95 "UpAllRoundModel" "open" "I") (List.mem_of_getElem? (i := 2) rfl)) (fun _ h9 => h9) rfl (by decide +kernel) rfl rfl (Nat.le_of_ble_eq_true rfl) dX6_one_190 (fun H locs hP hD hS => ?_)
                    have hP : va_P D vwCl [(h, .inr (6, [.ref m0, .ref m1, .ref m2, .int i3, .ref m4, .int (nI (q1 + 1)), .int (nI 0), .int (nI ((c + t1.length))), .int (nI u), .ref m9, .ref m10, .ref m11, .int (nI tn), .ref m13, .int (nI sp), .int (nI pt), .ref m16, .ref m17, .ref m18, .ref m19])), (m0, .inl (cI, 380, .inl S)), (m9, .inl (cI, 124, .inl (zap2 u ST c t1)))] H := hP
                    have hD : va_D AA [(h, .inr (6, [.ref m0, .ref m1, .ref m2, .int i3, .ref m4, .int (nI (q1 + 1)), .int (nI 0), .int (nI ((c + t1.length))), .int (nI u), .ref m9, .ref m10, .ref m11, .int (nI tn), .ref m13, .int (nI sp), .int (nI pt), .ref m16, .ref m17, .ref m18, .ref m19])), (m0, .inl (cI, 380, .inl S)), (m9, .inl (cI, 124, .inl (zap2 u ST c t1)))] := hD
                    refine lv_iconst (v := nI 1) hx hb dX6_one_193 (by decide) ?_
                    exact hret hP hD hS dX6_one_194 rfl (by obtain ⟨e1, e2, e3⟩ := zq_pt hR (by omega) hdg0 hnx (by omega) hR1 (by assumption) ⟨by omega, by omega⟩; subst e1; subst e2; subst e3; exact ⟨_, _, _, show c + _ ≤ _ from (by omega), fun _ => ⟨rfl, rfl, rfl⟩, (bI_t rfl).symm, rfl⟩)
                  · have c168_18 : ¬ ((T q1) = 41) := fun h9 => c168_18 ((nI_eq (a := T q1) (b := 41) (by have h91 := hT q1 (by omega); omega) (by have h91 := hT q1 (by omega); omega)).mpr h9)
                    refine lv_iconst (v := nI 0) hx hb dX6_one_171 (by decide) ?_
                    exact hret hP hD hS dX6_one_172 rfl (by obtain ⟨e1, e2⟩ := zq_pf hR (by omega) hdg0 hnx (by omega) hR1 (fun h9 => by have h91 := h9.2; omega); subst e1; subst e2; exact ⟨_, _, _, (show c + _ ≤ _ from (by omega)), fun h9 => (by cases h9), (bI_f (by decide)).symm, rfl⟩)
                · refine zcsE (va_runV (As := []) (rest := []) ⟨hx, hb, hml, hown, hts⟩ (c_X6_look l D cI cJ h m0 m1 m2 m4 m9 m10 m11 m13 m16 m17 m18 m19 i3 tn sp pt S ST L u T q1 ((c + t1.length)) 1 (by first | rfl | assumption | omega) (by first | rfl | assumption | omega) (by first | rfl | assumption | omega) (by first | rfl | assumption | omega) (by first | rfl | assumption | omega) (by omega) H.size) (cwV 0 hts gX6_one_X6_look rfl rfl rfl (by decide +kernel) ⟨Nat.le_of_ble_eq_true rfl, Nat.le_of_ble_eq_true rfl⟩) (zpV hK hN hZ hP hD hS hA [0, 1] rfl (by decide) 0 rfl rfl rfl) rfl rfl hl.1 rfl (lv_room (Nat.le_of_ble_eq_true rfl)) dX6_one_163 ⟨Nat.zero_le _, Nat.zero_le _⟩) ?_
                  refine zrw (if_neg hpL) ?_
                  refine lv_bipush (v := nI 41) hx hb dX6_one_166 (by decide) ?_
                  refine lv_icmp_eq (tgt := 173) hx hb dX6_one_168 (by decide) (fun c168_19 => ?_) (fun c168_19 => ?_)
                  · exact absurd c168_19 (by decide)
                  · refine lv_iconst (v := nI 0) hx hb dX6_one_171 (by decide) ?_
                    exact hret hP hD hS dX6_one_172 rfl (by obtain ⟨e1, e2⟩ := zq_pf hR (by omega) hdg0 hnx (by omega) hR1 (fun h9 => by have h91 := h9.2; omega); subst e1; subst e2; exact ⟨_, _, _, (show c + _ ≤ _ from (by omega)), fun h9 => (by cases h9), (bI_f (by decide)).symm, rfl⟩)
        · have c105_3 : (T p) = 33 := (nI_eq (a := T p) (b := 33) (by have h91 := hT p (by omega); omega) (by have h91 := hT p (by omega); omega)).mp c105_3
          refine lv_aload_n hx hb dX6_one_108 rfl (lv_at hl 1 rfl) ?_
          refine zci (wr := [(m0, .inl (cI, 380, .inl S)), (m9, .inl (cI, 124, .inl ST))]) (va_runV (As := []) (rest := []) ⟨hx, hb, hml, hown, hts⟩ (c_X6_opens_0 l D cI cJ h m0 m1 m2 m4 m9 m10 m11 m13 m16 m17 m18 m19 i3 tn sp pt u p c  s.heap.size) (cwV 0 hts gX6_one_X6_opens rfl rfl rfl (by decide +kernel) ⟨Nat.le_of_ble_eq_true rfl, Nat.le_of_ble_eq_true rfl⟩) (zpV hK hN hZ hP hD hS hA [0] rfl (by decide) 0 rfl rfl rfl) rfl rfl hl.1 rfl (lv_room (Nat.le_of_ble_eq_true rfl)) dX6_one_109 ⟨Nat.zero_le _, Nat.zero_le _⟩) hP hD hS hA [0] [1, 2] rfl rfl (by decide) (by decide) (fun r_22 w_21 H locs h_20 hP hD hS => ?_)
          obtain ⟨rfl, rfl⟩ := h_20
          have hP : va_P D vwCl [(m0, .inl (cI, 380, .inl S)), (m9, .inl (cI, 124, .inl ST)), (h, .inr (6, [.ref m0, .ref m1, .ref m2, .int i3, .ref m4, .int (nI ((p + 1))), .int (nI 1), .int (nI c), .int (nI u), .ref m9, .ref m10, .ref m11, .int (nI tn), .ref m13, .int (nI sp), .int (nI pt), .ref m16, .ref m17, .ref m18, .ref m19]))] H := hP
          have hD : va_D AA [(m0, .inl (cI, 380, .inl S)), (m9, .inl (cI, 124, .inl ST)), (h, .inr (6, [.ref m0, .ref m1, .ref m2, .int i3, .ref m4, .int (nI ((p + 1))), .int (nI 1), .int (nI c), .int (nI u), .ref m9, .ref m10, .ref m11, .int (nI tn), .ref m13, .int (nI sp), .int (nI pt), .ref m16, .ref m17, .ref m18, .ref m19]))] := hD
          refine lv_if_eq (tgt := 122) hx hb dX6_one_112 (by decide) (fun c112_23 => ?_) (fun c112_23 => ?_)
          · have c112_23 : 1 = 0 := (nI_eq (a := 1) (b := 0) (by omega) (by omega)).mp c112_23
            exact absurd c112_23 (by omega)
          · have c112_23 : ¬ (1 = 0) := fun h9 => c112_23 ((nI_eq (a := 1) (b := 0) (by omega) (by omega)).mpr h9)
            obtain ⟨b1, q1, t1, hR1⟩ : ∃ (b0 : Bool) (q0 : Nat) (t0 : zTks), zQ T L u 4 (p + 1) = (b0, q0, t0) := ⟨_, _, _, rfl⟩
            have hg1 := (zQ_gd (T := T) (L := L) (u := u) 4) (p + 1) (by omega)
            rw [hR1] at hg1
            obtain ⟨hga1, hgb1, hgc1⟩ : (p + 1) ≤ q1 ∧ q1 ≤ L ∧ (b1 = true → (p + 1) < q1 ∧ t1.length ≤ q1 - (p + 1) ∧ zw1 t1) := hg1
            refine lv_aload_n hx hb dX6_one_115 rfl (lv_at hl 1 rfl) ?_
            refine zci (wr := []) (va_runV (As := []) (rest := []) ⟨hx, hb, hml, hown, hts⟩ (c_X6_one_1 l D cI cJ h m0 m1 m2 m4 m9 m10 m11 m13 m16 m17 m18 m19 i3 tn sp pt S ST L u T ((p + 1)) c b1 q1 t1 (by first | rfl | assumption | omega) (by first | rfl | assumption | omega) (by first | rfl | assumption | omega) (by first | rfl | assumption | omega) (by first | rfl | assumption | omega) (by omega) (by omega) hR1 H.size) (cwV 0 hts gX6_one_X6_one rfl rfl rfl (by decide +kernel) ⟨Nat.le_of_ble_eq_true rfl, Nat.le_of_ble_eq_true rfl⟩) (zpV hK hN hZ hP hD hS hA [2, 0, 1] rfl (by decide) 2 rfl rfl rfl) rfl rfl hl.1 rfl (lv_room (Nat.le_of_ble_eq_true rfl)) dX6_one_116 ⟨Nat.zero_le _, Nat.zero_le _⟩) hP hD hS hA [2, 0, 1] [] rfl rfl (by decide) (by decide) (fun r_26 w_25 H locs h_24 hP hD hS => ?_)
            obtain ⟨c9_27, o9_28, ST9_29, hq9_30, hx9_31, rfl, rfl⟩ := h_24
            have hP : va_P D vwCl [(h, .inr (6, [.ref m0, .ref m1, .ref m2, .int i3, .ref m4, .int (nI q1), .int (nI o9_28), .int (nI c9_27), .int (nI u), .ref m9, .ref m10, .ref m11, .int (nI tn), .ref m13, .int (nI sp), .int (nI pt), .ref m16, .ref m17, .ref m18, .ref m19])), (m0, .inl (cI, 380, .inl S)), (m9, .inl (cI, 124, .inl ST9_29))] H := hP
            have hD : va_D AA [(h, .inr (6, [.ref m0, .ref m1, .ref m2, .int i3, .ref m4, .int (nI q1), .int (nI o9_28), .int (nI c9_27), .int (nI u), .ref m9, .ref m10, .ref m11, .int (nI tn), .ref m13, .int (nI sp), .int (nI pt), .ref m16, .ref m17, .ref m18, .ref m19])), (m0, .inl (cI, 380, .inl S)), (m9, .inl (cI, 124, .inl ST9_29))] := hD
            refine lv_if_ne (tgt := 124) hx hb dX6_one_119 (by decide) (fun c119_32 => ?_) (fun c119_32 => ?_)
            · have c119_32 := bI_n0.mp c119_32
              obtain ⟨hgd1, hge1, hgf1⟩ := hgc1 c119_32
              obtain ⟨he1, hE1, ho1⟩ := hx9_31 c119_32
              subst he1; subst hE1; subst ho1
              refine lv_aload_n hx hb dX6_one_124 rfl (lv_at hl 1 rfl) ?_
              refine lv_dup hx hb dX6_one_125 rfl ?_
              refine va_get (ci := 6) (v := .int (nI 1)) (C := RX6) (T := TX6) (N := 20) hx hb hts hin6 hown hK hP 0 rfl rfl 6 (by decide) (hts (.fieldLink RX6 95 "UpAllRoundModel" "open" "I") (List.mem_of_getElem? (i := 2) rfl)) (fun _ h9 => h9) rfl dX6_one_126 ?_
              refine lv_iconst (v := nI 1) hx hb dX6_one_129 (by decide) ?_
              refine lv_isub hx hb dX6_one_130 ?_
              refine zrw (pk_sub (by omega)) ?_
              refine va_put (ci := 6) (v := .int (nI 0)) (ty := .int) (C := RX6) (T := TX6) (N := 20) hx hb hts hin6 tyX6 tyX6_ok nmX6 hown hK hP hD hS 0 rfl rfl 6 (by decide) (hts (.fieldLink RX6 95 "UpAllRoundModel" "open" "I") (List.mem_of_getElem? (i := 2) rfl)) (fun _ h9 => h9) rfl (by decide +kernel) rfl rfl (Nat.le_of_ble_eq_true rfl) dX6_one_131 (fun H locs hP hD hS => ?_)
              have hP : va_P D vwCl [(h, .inr (6, [.ref m0, .ref m1, .ref m2, .int i3, .ref m4, .int (nI q1), .int (nI 0), .int (nI ((c + t1.length))), .int (nI u), .ref m9, .ref m10, .ref m11, .int (nI tn), .ref m13, .int (nI sp), .int (nI pt), .ref m16, .ref m17, .ref m18, .ref m19])), (m0, .inl (cI, 380, .inl S)), (m9, .inl (cI, 124, .inl (zap2 u ST c t1)))] H := hP
              have hD : va_D AA [(h, .inr (6, [.ref m0, .ref m1, .ref m2, .int i3, .ref m4, .int (nI q1), .int (nI 0), .int (nI ((c + t1.length))), .int (nI u), .ref m9, .ref m10, .ref m11, .int (nI tn), .ref m13, .int (nI sp), .int (nI pt), .ref m16, .ref m17, .ref m18, .ref m19])), (m0, .inl (cI, 380, .inl S)), (m9, .inl (cI, 124, .inl (zap2 u ST c t1)))] := hD
              refine lv_aload_n hx hb dX6_one_134 rfl (lv_at hl 1 rfl) ?_
              refine lv_iconst (v := nI 2) hx hb dX6_one_135 (by decide) ?_
              refine lv_iconst (v := nI 0) hx hb dX6_one_136 (by decide) ?_
              refine zcv (wr := [(m0, .inl (cI, 380, .inl S))]) (va_runV (As := [.int (nI 2), .int (nI 0)]) (rest := []) ⟨hx, hb, hml, hown, hts⟩ (c_X6_step1 l D cI cJ h m0 m1 m2 m4 m9 m10 m11 m13 m16 m17 m18 m19 i3 tn sp pt u q1 0 ((c + t1.length)) (zap2 u ST c t1) 2 (nI 0) (by omega) H.size) (cwV 2 hts gX6_one_X6_step1 rfl rfl rfl (by decide +kernel) ⟨Nat.le_of_ble_eq_true rfl, Nat.le_of_ble_eq_true rfl⟩) (zpV hK hN hZ hP hD hS hA [0, 2] rfl (by decide) 0 rfl rfl rfl) rfl rfl hl.1 rfl (lv_room (Nat.le_of_ble_eq_true rfl)) dX6_one_137 ⟨Nat.zero_le _, Nat.zero_le _⟩) hP hD hS hA [0, 2] [1] rfl rfl (by decide) (by decide) (fun w_34 H locs h_33 hP hD hS => ?_)
              obtain rfl := h_33
              have hP : va_P D vwCl [(m0, .inl (cI, 380, .inl S)), (h, .inr (6, [.ref m0, .ref m1, .ref m2, .int i3, .ref m4, .int (nI q1), .int (nI 0), .int (nI ((((c + t1.length)) + 1))), .int (nI u), .ref m9, .ref m10, .ref m11, .int (nI tn), .ref m13, .int (nI sp), .int (nI pt), .ref m16, .ref m17, .ref m18, .ref m19])), (m9, .inl (cI, 124, .inl ((upd (upd (zap2 u ST c t1) (2 * ((c + t1.length))) (nI 2)) (2 * ((c + t1.length)) + 1) (nI 0)))))] H := hP
              have hD : va_D AA [(m0, .inl (cI, 380, .inl S)), (h, .inr (6, [.ref m0, .ref m1, .ref m2, .int i3, .ref m4, .int (nI q1), .int (nI 0), .int (nI ((((c + t1.length)) + 1))), .int (nI u), .ref m9, .ref m10, .ref m11, .int (nI tn), .ref m13, .int (nI sp), .int (nI pt), .ref m16, .ref m17, .ref m18, .ref m19])), (m9, .inl (cI, 124, .inl ((upd (upd (zap2 u ST c t1) (2 * ((c + t1.length))) (nI 2)) (2 * ((c + t1.length)) + 1) (nI 0)))))] := hD
              refine lv_iconst (v := nI 1) hx hb dX6_one_140 (by decide) ?_
              have hP := hP.sub (ws' := [(h, .inr (6, [.ref m0, .ref m1, .ref m2, .int i3, .ref m4, .int (nI q1), .int (nI 0), .int (nI ((((c + t1.length)) + 1))), .int (nI u), .ref m9, .ref m10, .ref m11, .int (nI tn), .ref m13, .int (nI sp), .int (nI pt), .ref m16, .ref m17, .ref m18, .ref m19])), (m0, .inl (cI, 380, .inl S)), (m9, .inl (cI, 124, .inl ((upd (upd (zap2 u ST c t1) (2 * ((c + t1.length))) (nI 2)) (2 * ((c + t1.length)) + 1) (nI 0)))))]) [1, 0, 2] rfl
              have hD := hD.sub (ws' := [(h, .inr (6, [.ref m0, .ref m1, .ref m2, .int i3, .ref m4, .int (nI q1), .int (nI 0), .int (nI ((((c + t1.length)) + 1))), .int (nI u), .ref m9, .ref m10, .ref m11, .int (nI tn), .ref m13, .int (nI sp), .int (nI pt), .ref m16, .ref m17, .ref m18, .ref m19])), (m0, .inl (cI, 380, .inl S)), (m9, .inl (cI, 124, .inl ((upd (upd (zap2 u ST c t1) (2 * ((c + t1.length))) (nI 2)) (2 * ((c + t1.length)) + 1) (nI 0)))))]) [1, 0, 2] (by decide) rfl
              exact hret hP hD hS dX6_one_141 rfl (by obtain ⟨e1, e2, e3⟩ := zq_not hR (by omega) hdg0 hnx (by omega) hR1; subst e1; subst e2; rw [e3 (by assumption)]; exact ⟨_, _, _, show c + t1.length + 1 ≤ _ from (by omega), fun _ => ⟨zlen0, zap20 (t := (2, 0)), rfl⟩, (bI_t (by assumption)).symm, rfl⟩)
            · have c119_32 := bI_0.mp c119_32
              refine lv_iconst (v := nI 0) hx hb dX6_one_122 (by decide) ?_
              exact hret hP hD hS dX6_one_123 rfl (by obtain ⟨e1, e2, e3⟩ := zq_not hR (by omega) hdg0 hnx (by omega) hR1; subst e1; subst e2; exact ⟨_, _, _, hq9_30, fun h9 => absurd h9 (by assumption), (bI_f (by assumption)).symm, rfl⟩)
      · have c39_2 := bI_n0.mp c39_2
        have hdg0 : zdg (T p) := (zrg_dg (hT p (by omega))).mp c39_2
        refine lv_iconst (v := nI 0) hx hb dX6_one_42 (by decide) ?_
        refine lv_istore_n (lv' := [(2, .int (nI 0)), (1, .int (nI (T p))), (0, .ref h)]) hx hb dX6_one_43 rfl hl (by decide) rfl (fun ls hl => ?_)
        refine lv_iconst (v := nI 0) hx hb dX6_one_44 (by decide) ?_
        refine lv_istore_n (lv' := [(3, .int (nI 0)), (2, .int (nI 0)), (1, .int (nI (T p))), (0, .ref h)]) hx hb dX6_one_45 rfl hl (by decide) rfl (fun ls hl => ?_)
        have L_46 : ∀ (fu i : Nat) (pv : Nat) (v : Nat) (hi : i ≤ 4) (hn : 4 + 1 ≤ i + fu) (hz : zNm T L (4 - i) pv v = zNm T L 4 p 0) (hpv : pv ≤ L) (hv : v < 10 ^ i), ∀ (ls : Array Slot), lv_has ls 4 [(0, .ref h), (2, .int (nI v)), (3, .int (nI i))] → ∀ (H : Heap) (locs : List Loc), va_P D vwCl [(h, .inr (6, [.ref m0, .ref m1, .ref m2, .int i3, .ref m4, .int (nI pv), .int (nI 0), .int (nI c), .int (nI u), .ref m9, .ref m10, .ref m11, .int (nI tn), .ref m13, .int (nI sp), .int (nI pt), .ref m16, .ref m17, .ref m18, .ref m19])), (m0, .inl (cI, 380, .inl S)), (m9, .inl (cI, 124, .inl ST))] H → va_D AA [(h, .inr (6, [.ref m0, .ref m1, .ref m2, .int i3, .ref m4, .int (nI pv), .int (nI 0), .int (nI c), .int (nI u), .ref m9, .ref m10, .ref m11, .int (nI tn), .ref m13, .int (nI sp), .int (nI pt), .ref m16, .ref m17, .ref m18, .ref m19])), (m0, .inl (cI, 380, .inl S)), (m9, .inl (cI, 124, .inl ST))] → va_S AA s.heap H locs → W pg l ev ({ frames := 31, cells := 0, slots := 0, locals := 652 } : Room) s mt args below meth cd H locs 0 0 QQ (F0 mt 46 ls []) := by
          intro fu
          induction fu with
          | zero =>
            intro i pv v hi hn
            exact absurd hn (by omega)
          | succ fu ih_46 =>
            intro i pv v hi hn hz hpv hv ls hl H locs hP hD hS
            refine lv_iload_n hx hb dX6_one_46 rfl (lv_at hl 2 rfl) ?_
            refine lv_iconst (v := nI 4) hx hb dX6_one_47 (by decide) ?_
            refine lv_icmp_ge (tgt := 94) hx hb dX6_one_48 (by decide) (fun c48_35 => ?_) (fun c48_35 => ?_)
            · have c48_35 : 4 ≤ i := (nI_leI (a := 4) (b := i) (by omega) (by omega)).mp c48_35
              have hfin : zNm T L 4 p 0 = (pv, v) := by rw [← hz]; rw [show 4 - i = 0 by omega] <;> rfl
              refine lv_aload_n hx hb dX6_one_94 rfl (lv_at hl 0 rfl) ?_
              refine lv_iconst (v := nI 0) hx hb dX6_one_95 (by decide) ?_
              refine lv_iload_n hx hb dX6_one_96 rfl (lv_at hl 1 rfl) ?_
              refine zcv (wr := [(m0, .inl (cI, 380, .inl S))]) (va_runV (As := [.int (nI 0), .int (nI v)]) (rest := []) ⟨hx, hb, hml, hown, hts⟩ (c_X6_step1 l D cI cJ h m0 m1 m2 m4 m9 m10 m11 m13 m16 m17 m18 m19 i3 tn sp pt u pv 0 c ST 0 (nI v) (by omega) H.size) (cwV 2 hts gX6_one_X6_step1 rfl rfl rfl (by decide +kernel) ⟨Nat.le_of_ble_eq_true rfl, Nat.le_of_ble_eq_true rfl⟩) (zpV hK hN hZ hP hD hS hA [0, 2] rfl (by decide) 0 rfl rfl rfl) rfl rfl hl.1 rfl (lv_room (Nat.le_of_ble_eq_true rfl)) dX6_one_97 ⟨Nat.zero_le _, Nat.zero_le _⟩) hP hD hS hA [0, 2] [1] rfl rfl (by decide) (by decide) (fun w_37 H locs h_36 hP hD hS => ?_)
              obtain rfl := h_36
              have hP : va_P D vwCl [(m0, .inl (cI, 380, .inl S)), (h, .inr (6, [.ref m0, .ref m1, .ref m2, .int i3, .ref m4, .int (nI pv), .int (nI 0), .int (nI ((c + 1))), .int (nI u), .ref m9, .ref m10, .ref m11, .int (nI tn), .ref m13, .int (nI sp), .int (nI pt), .ref m16, .ref m17, .ref m18, .ref m19])), (m9, .inl (cI, 124, .inl ((upd (upd ST (2 * c) (nI 0)) (2 * c + 1) (nI v)))))] H := hP
              have hD : va_D AA [(m0, .inl (cI, 380, .inl S)), (h, .inr (6, [.ref m0, .ref m1, .ref m2, .int i3, .ref m4, .int (nI pv), .int (nI 0), .int (nI ((c + 1))), .int (nI u), .ref m9, .ref m10, .ref m11, .int (nI tn), .ref m13, .int (nI sp), .int (nI pt), .ref m16, .ref m17, .ref m18, .ref m19])), (m9, .inl (cI, 124, .inl ((upd (upd ST (2 * c) (nI 0)) (2 * c + 1) (nI v)))))] := hD
              refine lv_iconst (v := nI 1) hx hb dX6_one_100 (by decide) ?_
              have hP := hP.sub (ws' := [(h, .inr (6, [.ref m0, .ref m1, .ref m2, .int i3, .ref m4, .int (nI pv), .int (nI 0), .int (nI ((c + 1))), .int (nI u), .ref m9, .ref m10, .ref m11, .int (nI tn), .ref m13, .int (nI sp), .int (nI pt), .ref m16, .ref m17, .ref m18, .ref m19])), (m0, .inl (cI, 380, .inl S)), (m9, .inl (cI, 124, .inl ((upd (upd ST (2 * c) (nI 0)) (2 * c + 1) (nI v)))))]) [1, 0, 2] rfl
              have hD := hD.sub (ws' := [(h, .inr (6, [.ref m0, .ref m1, .ref m2, .int i3, .ref m4, .int (nI pv), .int (nI 0), .int (nI ((c + 1))), .int (nI u), .ref m9, .ref m10, .ref m11, .int (nI tn), .ref m13, .int (nI sp), .int (nI pt), .ref m16, .ref m17, .ref m18, .ref m19])), (m0, .inl (cI, 380, .inl S)), (m9, .inl (cI, 124, .inl ((upd (upd ST (2 * c) (nI 0)) (2 * c + 1) (nI v)))))]) [1, 0, 2] (by decide) rfl
              exact hret hP hD hS dX6_one_101 rfl (by obtain ⟨e1, e2, e3⟩ := zq_d hR (by omega) hdg0; rw [hfin] at e2 e3; subst e1; subst e2; subst e3; exact ⟨_, _, _, show c + 1 ≤ _ from (by have h91 := zNm_4 (T := T) (L := L) (p := p) (by omega) hdg0; rw [hfin] at h91; omega), fun _ => ⟨rfl, rfl, rfl⟩, (bI_t rfl).symm, rfl⟩)
            · have c48_35 : ¬ (4 ≤ i) := fun h9 => c48_35 ((nI_leI (a := 4) (b := i) (by omega) (by omega)).mpr h9)
              refine lv_aload_n hx hb dX6_one_51 rfl (lv_at hl 0 rfl) ?_
              by_cases hpL : pv < L
              · refine zcsE (va_runV (As := []) (rest := []) ⟨hx, hb, hml, hown, hts⟩ (c_X6_look l D cI cJ h m0 m1 m2 m4 m9 m10 m11 m13 m16 m17 m18 m19 i3 tn sp pt S ST L u T pv c 0 (by first | rfl | assumption | omega) (by first | rfl | assumption | omega) (by first | rfl | assumption | omega) (by first | rfl | assumption | omega) (by first | rfl | assumption | omega) (by omega) H.size) (cwV 0 hts gX6_one_X6_look rfl rfl rfl (by decide +kernel) ⟨Nat.le_of_ble_eq_true rfl, Nat.le_of_ble_eq_true rfl⟩) (zpV hK hN hZ hP hD hS hA [0, 1] rfl (by decide) 0 rfl rfl rfl) rfl rfl hl.1 rfl (lv_room (Nat.le_of_ble_eq_true rfl)) dX6_one_52 ⟨Nat.zero_le _, Nat.zero_le _⟩) ?_
                refine zrw (if_pos hpL) ?_
                refine lv_bipush (v := nI 48) hx hb dX6_one_55 (by decide) ?_
                refine lv_bipush (v := nI 57) hx hb dX6_one_57 (by decide) ?_
                refine zcsE (va_runS (As := [.int (nI (T pv)), .int (nI 48), .int (nI 57)]) (rest := []) ⟨hx, hb, hml, hown, hts⟩ (d_X6_in l D cI cJ (nI (T pv)) (nI 48) (nI 57) 48 57 (by decide) (by decide) H.size) (va_cwS 3 hts gX6_one_X6_in rfl rfl rfl (by decide +kernel) ⟨Nat.le_of_ble_eq_true rfl, Nat.le_of_ble_eq_true rfl⟩) (zpS hK hN hZ hP hD hS hA [] rfl (by decide)) rfl rfl hl.1 rfl (lv_room (Nat.le_of_ble_eq_true rfl)) dX6_one_59 ⟨Nat.zero_le _, Nat.zero_le _⟩) ?_
                refine lv_if_eq (tgt := 94) hx hb dX6_one_62 (by decide) (fun c62_38 => ?_) (fun c62_38 => ?_)
                · have c62_38 := bI_0.mp c62_38
                  have hfin : zNm T L 4 p 0 = (pv, v) := by rw [← hz]; rw [show 4 - i = (3 - i) + 1 by omega, zNm_f (fun h9 => absurd ((zrg_dg (hT pv (by omega))).mpr h9.2) (by assumption))]
                  refine lv_aload_n hx hb dX6_one_94 rfl (lv_at hl 0 rfl) ?_
                  refine lv_iconst (v := nI 0) hx hb dX6_one_95 (by decide) ?_
                  refine lv_iload_n hx hb dX6_one_96 rfl (lv_at hl 1 rfl) ?_
                  refine zcv (wr := [(m0, .inl (cI, 380, .inl S))]) (va_runV (As := [.int (nI 0), .int (nI v)]) (rest := []) ⟨hx, hb, hml, hown, hts⟩ (c_X6_step1 l D cI cJ h m0 m1 m2 m4 m9 m10 m11 m13 m16 m17 m18 m19 i3 tn sp pt u pv 0 c ST 0 (nI v) (by omega) H.size) (cwV 2 hts gX6_one_X6_step1 rfl rfl rfl (by decide +kernel) ⟨Nat.le_of_ble_eq_true rfl, Nat.le_of_ble_eq_true rfl⟩) (zpV hK hN hZ hP hD hS hA [0, 2] rfl (by decide) 0 rfl rfl rfl) rfl rfl hl.1 rfl (lv_room (Nat.le_of_ble_eq_true rfl)) dX6_one_97 ⟨Nat.zero_le _, Nat.zero_le _⟩) hP hD hS hA [0, 2] [1] rfl rfl (by decide) (by decide) (fun w_40 H locs h_39 hP hD hS => ?_)
                  obtain rfl := h_39
                  have hP : va_P D vwCl [(m0, .inl (cI, 380, .inl S)), (h, .inr (6, [.ref m0, .ref m1, .ref m2, .int i3, .ref m4, .int (nI pv), .int (nI 0), .int (nI ((c + 1))), .int (nI u), .ref m9, .ref m10, .ref m11, .int (nI tn), .ref m13, .int (nI sp), .int (nI pt), .ref m16, .ref m17, .ref m18, .ref m19])), (m9, .inl (cI, 124, .inl ((upd (upd ST (2 * c) (nI 0)) (2 * c + 1) (nI v)))))] H := hP
                  have hD : va_D AA [(m0, .inl (cI, 380, .inl S)), (h, .inr (6, [.ref m0, .ref m1, .ref m2, .int i3, .ref m4, .int (nI pv), .int (nI 0), .int (nI ((c + 1))), .int (nI u), .ref m9, .ref m10, .ref m11, .int (nI tn), .ref m13, .int (nI sp), .int (nI pt), .ref m16, .ref m17, .ref m18, .ref m19])), (m9, .inl (cI, 124, .inl ((upd (upd ST (2 * c) (nI 0)) (2 * c + 1) (nI v)))))] := hD
                  refine lv_iconst (v := nI 1) hx hb dX6_one_100 (by decide) ?_
                  have hP := hP.sub (ws' := [(h, .inr (6, [.ref m0, .ref m1, .ref m2, .int i3, .ref m4, .int (nI pv), .int (nI 0), .int (nI ((c + 1))), .int (nI u), .ref m9, .ref m10, .ref m11, .int (nI tn), .ref m13, .int (nI sp), .int (nI pt), .ref m16, .ref m17, .ref m18, .ref m19])), (m0, .inl (cI, 380, .inl S)), (m9, .inl (cI, 124, .inl ((upd (upd ST (2 * c) (nI 0)) (2 * c + 1) (nI v)))))]) [1, 0, 2] rfl
                  have hD := hD.sub (ws' := [(h, .inr (6, [.ref m0, .ref m1, .ref m2, .int i3, .ref m4, .int (nI pv), .int (nI 0), .int (nI ((c + 1))), .int (nI u), .ref m9, .ref m10, .ref m11, .int (nI tn), .ref m13, .int (nI sp), .int (nI pt), .ref m16, .ref m17, .ref m18, .ref m19])), (m0, .inl (cI, 380, .inl S)), (m9, .inl (cI, 124, .inl ((upd (upd ST (2 * c) (nI 0)) (2 * c + 1) (nI v)))))]) [1, 0, 2] (by decide) rfl
                  exact hret hP hD hS dX6_one_101 rfl (by obtain ⟨e1, e2, e3⟩ := zq_d hR (by omega) hdg0; rw [hfin] at e2 e3; subst e1; subst e2; subst e3; exact ⟨_, _, _, show c + 1 ≤ _ from (by have h91 := zNm_4 (T := T) (L := L) (p := p) (by omega) hdg0; rw [hfin] at h91; omega), fun _ => ⟨rfl, rfl, rfl⟩, (bI_t rfl).symm, rfl⟩)
                · have c62_38 := bI_n0.mp c62_38
                  have hdg9 : 48 ≤ T pv ∧ T pv ≤ 57 := (zrg_dg (hT pv (by omega))).mp c62_38
                  refine lv_bipush (v := nI 10) hx hb dX6_one_65 (by decide) ?_
                  refine lv_iload_n hx hb dX6_one_67 rfl (lv_at hl 1 rfl) ?_
                  refine lv_imul hx hb dX6_one_68 ?_
                  refine zrw (pk_mul _ _) ?_
                  refine lv_aload_n hx hb dX6_one_69 rfl (lv_at hl 0 rfl) ?_
                  refine zcsE (va_runV (As := []) (rest := [.int (nI (10 * v))]) ⟨hx, hb, hml, hown, hts⟩ (c_X6_look l D cI cJ h m0 m1 m2 m4 m9 m10 m11 m13 m16 m17 m18 m19 i3 tn sp pt S ST L u T pv c 0 (by first | rfl | assumption | omega) (by first | rfl | assumption | omega) (by first | rfl | assumption | omega) (by first | rfl | assumption | omega) (by first | rfl | assumption | omega) (by omega) H.size) (cwV 0 hts gX6_one_X6_look rfl rfl rfl (by decide +kernel) ⟨Nat.le_of_ble_eq_true rfl, Nat.le_of_ble_eq_true rfl⟩) (zpV hK hN hZ hP hD hS hA [0, 1] rfl (by decide) 0 rfl rfl rfl) rfl rfl hl.1 rfl (lv_room (Nat.le_of_ble_eq_true rfl)) dX6_one_70 ⟨Nat.zero_le _, Nat.zero_le _⟩) ?_
                  refine zrw (if_pos hpL) ?_
                  refine lv_iadd hx hb dX6_one_73 ?_
                  refine zrw (nI_add _ _) ?_
                  refine lv_bipush (v := nI 48) hx hb dX6_one_74 (by decide) ?_
                  refine lv_isub hx hb dX6_one_76 ?_
                  refine zrw (pk_sub (by omega)) ?_
                  refine lv_istore_n (lv' := [(2, .int (nI (((10 * v) + (T pv)) - 48))), (0, .ref h), (3, .int (nI i))]) hx hb dX6_one_77 rfl hl (by decide) rfl (fun ls hl => ?_)
                  refine lv_aload_n hx hb dX6_one_78 rfl (lv_at hl 1 rfl) ?_
                  refine lv_dup hx hb dX6_one_79 rfl ?_
                  refine va_get (ci := 6) (v := .int (nI pv)) (C := RX6) (T := TX6) (N := 20) hx hb hts hin6 hown hK hP 0 rfl rfl 5 (by decide) (hts (.fieldLink RX6 61 "UpAllRoundModel" "at" "I") (List.mem_of_getElem? (i := 1) rfl)) (fun _ h9 => h9) rfl dX6_one_80 ?_
                  refine lv_iconst (v := nI 1) hx hb dX6_one_83 (by decide) ?_
                  refine lv_iadd hx hb dX6_one_84 ?_
                  refine zrw (nI_add _ _) ?_
                  refine va_put (ci := 6) (v := .int (nI (pv + 1))) (ty := .int) (C := RX6) (T := TX6) (N := 20) hx hb hts hin6 tyX6 tyX6_ok nmX6 hown hK hP hD hS 0 rfl rfl 5 (by decide) (hts (.fieldLink RX6 61 "UpAllRoundModel" "at" "I") (List.mem_of_getElem? (i := 1) rfl)) (fun _ h9 => h9) rfl (by decide +kernel) rfl rfl (Nat.le_of_ble_eq_true rfl) dX6_one_85 (fun H locs hP hD hS => ?_)
                  have hP : va_P D vwCl [(h, .inr (6, [.ref m0, .ref m1, .ref m2, .int i3, .ref m4, .int (nI (pv + 1)), .int (nI 0), .int (nI c), .int (nI u), .ref m9, .ref m10, .ref m11, .int (nI tn), .ref m13, .int (nI sp), .int (nI pt), .ref m16, .ref m17, .ref m18, .ref m19])), (m0, .inl (cI, 380, .inl S)), (m9, .inl (cI, 124, .inl ST))] H := hP
                  have hD : va_D AA [(h, .inr (6, [.ref m0, .ref m1, .ref m2, .int i3, .ref m4, .int (nI (pv + 1)), .int (nI 0), .int (nI c), .int (nI u), .ref m9, .ref m10, .ref m11, .int (nI tn), .ref m13, .int (nI sp), .int (nI pt), .ref m16, .ref m17, .ref m18, .ref m19])), (m0, .inl (cI, 380, .inl S)), (m9, .inl (cI, 124, .inl ST))] := hD
                  refine lv_iinc (v := nI (i + 1)) (lv' := [(3, .int (nI (i + 1))), (2, .int (nI (((10 * v) + (T pv)) - 48))), (0, .ref h)]) hx hb dX6_one_88 hl (k := 2) rfl (nI_add _ _) (by decide) rfl (fun ls hl => ?_)
                  refine lv_goto (tgt := 46) hx hb dX6_one_91 (by decide) ?_
                  exact ih_46  (i + 1) ((pv + 1)) ((10 * v + T pv - 48)) (by omega) (by omega) (by rw [← hz, show 4 - i = (4 - (i + 1)) + 1 by omega, zNm_t ⟨by omega, hdg9⟩, show 10 * v + (T pv - 48) = 10 * v + T pv - 48 by omega]) (by omega) (by rw [Nat.pow_succ]; omega) ls (lv_sub hl [2, 1, 0] rfl) H locs hP hD hS
              · refine zcsE (va_runV (As := []) (rest := []) ⟨hx, hb, hml, hown, hts⟩ (c_X6_look l D cI cJ h m0 m1 m2 m4 m9 m10 m11 m13 m16 m17 m18 m19 i3 tn sp pt S ST L u T pv c 0 (by first | rfl | assumption | omega) (by first | rfl | assumption | omega) (by first | rfl | assumption | omega) (by first | rfl | assumption | omega) (by first | rfl | assumption | omega) (by omega) H.size) (cwV 0 hts gX6_one_X6_look rfl rfl rfl (by decide +kernel) ⟨Nat.le_of_ble_eq_true rfl, Nat.le_of_ble_eq_true rfl⟩) (zpV hK hN hZ hP hD hS hA [0, 1] rfl (by decide) 0 rfl rfl rfl) rfl rfl hl.1 rfl (lv_room (Nat.le_of_ble_eq_true rfl)) dX6_one_52 ⟨Nat.zero_le _, Nat.zero_le _⟩) ?_
                refine zrw (if_neg hpL) ?_
                refine lv_bipush (v := nI 48) hx hb dX6_one_55 (by decide) ?_
                refine lv_bipush (v := nI 57) hx hb dX6_one_57 (by decide) ?_
                refine zcsE (va_runS (As := [.int ((-1)), .int (nI 48), .int (nI 57)]) (rest := []) ⟨hx, hb, hml, hown, hts⟩ (d_X6_in l D cI cJ ((-1)) (nI 48) (nI 57) 48 57 (by decide) (by decide) H.size) (va_cwS 3 hts gX6_one_X6_in rfl rfl rfl (by decide +kernel) ⟨Nat.le_of_ble_eq_true rfl, Nat.le_of_ble_eq_true rfl⟩) (zpS hK hN hZ hP hD hS hA [] rfl (by decide)) rfl rfl hl.1 rfl (lv_room (Nat.le_of_ble_eq_true rfl)) dX6_one_59 ⟨Nat.zero_le _, Nat.zero_le _⟩) ?_
                refine lv_if_eq (tgt := 94) hx hb dX6_one_62 (by decide) (fun c62_41 => ?_) (fun c62_41 => ?_)
                · have c62_41 := bI_0.mp c62_41
                  have hfin : zNm T L 4 p 0 = (pv, v) := by rw [← hz]; rw [show 4 - i = (3 - i) + 1 by omega, zNm_f (fun h9 => absurd h9.1 (by omega))]
                  refine lv_aload_n hx hb dX6_one_94 rfl (lv_at hl 0 rfl) ?_
                  refine lv_iconst (v := nI 0) hx hb dX6_one_95 (by decide) ?_
                  refine lv_iload_n hx hb dX6_one_96 rfl (lv_at hl 1 rfl) ?_
                  refine zcv (wr := [(m0, .inl (cI, 380, .inl S))]) (va_runV (As := [.int (nI 0), .int (nI v)]) (rest := []) ⟨hx, hb, hml, hown, hts⟩ (c_X6_step1 l D cI cJ h m0 m1 m2 m4 m9 m10 m11 m13 m16 m17 m18 m19 i3 tn sp pt u pv 0 c ST 0 (nI v) (by omega) H.size) (cwV 2 hts gX6_one_X6_step1 rfl rfl rfl (by decide +kernel) ⟨Nat.le_of_ble_eq_true rfl, Nat.le_of_ble_eq_true rfl⟩) (zpV hK hN hZ hP hD hS hA [0, 2] rfl (by decide) 0 rfl rfl rfl) rfl rfl hl.1 rfl (lv_room (Nat.le_of_ble_eq_true rfl)) dX6_one_97 ⟨Nat.zero_le _, Nat.zero_le _⟩) hP hD hS hA [0, 2] [1] rfl rfl (by decide) (by decide) (fun w_43 H locs h_42 hP hD hS => ?_)
                  obtain rfl := h_42
                  have hP : va_P D vwCl [(m0, .inl (cI, 380, .inl S)), (h, .inr (6, [.ref m0, .ref m1, .ref m2, .int i3, .ref m4, .int (nI pv), .int (nI 0), .int (nI ((c + 1))), .int (nI u), .ref m9, .ref m10, .ref m11, .int (nI tn), .ref m13, .int (nI sp), .int (nI pt), .ref m16, .ref m17, .ref m18, .ref m19])), (m9, .inl (cI, 124, .inl ((upd (upd ST (2 * c) (nI 0)) (2 * c + 1) (nI v)))))] H := hP
                  have hD : va_D AA [(m0, .inl (cI, 380, .inl S)), (h, .inr (6, [.ref m0, .ref m1, .ref m2, .int i3, .ref m4, .int (nI pv), .int (nI 0), .int (nI ((c + 1))), .int (nI u), .ref m9, .ref m10, .ref m11, .int (nI tn), .ref m13, .int (nI sp), .int (nI pt), .ref m16, .ref m17, .ref m18, .ref m19])), (m9, .inl (cI, 124, .inl ((upd (upd ST (2 * c) (nI 0)) (2 * c + 1) (nI v)))))] := hD
                  refine lv_iconst (v := nI 1) hx hb dX6_one_100 (by decide) ?_
                  have hP := hP.sub (ws' := [(h, .inr (6, [.ref m0, .ref m1, .ref m2, .int i3, .ref m4, .int (nI pv), .int (nI 0), .int (nI ((c + 1))), .int (nI u), .ref m9, .ref m10, .ref m11, .int (nI tn), .ref m13, .int (nI sp), .int (nI pt), .ref m16, .ref m17, .ref m18, .ref m19])), (m0, .inl (cI, 380, .inl S)), (m9, .inl (cI, 124, .inl ((upd (upd ST (2 * c) (nI 0)) (2 * c + 1) (nI v)))))]) [1, 0, 2] rfl
                  have hD := hD.sub (ws' := [(h, .inr (6, [.ref m0, .ref m1, .ref m2, .int i3, .ref m4, .int (nI pv), .int (nI 0), .int (nI ((c + 1))), .int (nI u), .ref m9, .ref m10, .ref m11, .int (nI tn), .ref m13, .int (nI sp), .int (nI pt), .ref m16, .ref m17, .ref m18, .ref m19])), (m0, .inl (cI, 380, .inl S)), (m9, .inl (cI, 124, .inl ((upd (upd ST (2 * c) (nI 0)) (2 * c + 1) (nI v)))))]) [1, 0, 2] (by decide) rfl
                  exact hret hP hD hS dX6_one_101 rfl (by obtain ⟨e1, e2, e3⟩ := zq_d hR (by omega) hdg0; rw [hfin] at e2 e3; subst e1; subst e2; subst e3; exact ⟨_, _, _, show c + 1 ≤ _ from (by have h91 := zNm_4 (T := T) (L := L) (p := p) (by omega) hdg0; rw [hfin] at h91; omega), fun _ => ⟨rfl, rfl, rfl⟩, (bI_t rfl).symm, rfl⟩)
                · have c62_41 := bI_n0.mp c62_41
                  exact absurd c62_41 (by decide)
        exact L_46 (4 + 1) 0 p 0 (by omega) (by omega) rfl hp (by decide) ls (lv_sub hl [3, 1, 0] rfl) _ _ hP hD hS
    · have c10_1 := bI_nn0.mp c10_1
      rcases hnx : znx u (T p) with _ | j
      · exact absurd hnx c10_1
      have hj3 := (znx_ch hnx).2
      refine lv_aload_n hx hb dX6_one_13 rfl (lv_at hl 1 rfl) ?_
      refine lv_dup hx hb dX6_one_14 rfl ?_
      refine va_get (ci := 6) (v := .int (nI p)) (C := RX6) (T := TX6) (N := 20) hx hb hts hin6 hown hK hP 0 rfl rfl 5 (by decide) (hts (.fieldLink RX6 61 "UpAllRoundModel" "at" "I") (List.mem_of_getElem? (i := 1) rfl)) (fun _ h9 => h9) rfl dX6_one_15 ?_
      refine lv_iconst (v := nI 1) hx hb dX6_one_18 (by decide) ?_
      refine lv_iadd hx hb dX6_one_19 ?_
      refine zrw (nI_add _ _) ?_
      refine va_put (ci := 6) (v := .int (nI (p + 1))) (ty := .int) (C := RX6) (T := TX6) (N := 20) hx hb hts hin6 tyX6 tyX6_ok nmX6 hown hK hP hD hS 0 rfl rfl 5 (by decide) (hts (.fieldLink RX6 61 "UpAllRoundModel" "at" "I") (List.mem_of_getElem? (i := 1) rfl)) (fun _ h9 => h9) rfl (by decide +kernel) rfl rfl (Nat.le_of_ble_eq_true rfl) dX6_one_20 (fun H locs hP hD hS => ?_)
      have hP : va_P D vwCl [(h, .inr (6, [.ref m0, .ref m1, .ref m2, .int i3, .ref m4, .int (nI (p + 1)), .int (nI 0), .int (nI c), .int (nI u), .ref m9, .ref m10, .ref m11, .int (nI tn), .ref m13, .int (nI sp), .int (nI pt), .ref m16, .ref m17, .ref m18, .ref m19])), (m0, .inl (cI, 380, .inl S)), (m9, .inl (cI, 124, .inl ST))] H := hP
      have hD : va_D AA [(h, .inr (6, [.ref m0, .ref m1, .ref m2, .int i3, .ref m4, .int (nI (p + 1)), .int (nI 0), .int (nI c), .int (nI u), .ref m9, .ref m10, .ref m11, .int (nI tn), .ref m13, .int (nI sp), .int (nI pt), .ref m16, .ref m17, .ref m18, .ref m19])), (m0, .inl (cI, 380, .inl S)), (m9, .inl (cI, 124, .inl ST))] := hD
      refine lv_aload_n hx hb dX6_one_23 rfl (lv_at hl 1 rfl) ?_
      refine lv_iconst (v := nI 1) hx hb dX6_one_24 (by decide) ?_
      refine lv_iload_n hx hb dX6_one_25 rfl (lv_at hl 0 rfl) ?_
      refine zcv (wr := [(m0, .inl (cI, 380, .inl S))]) (va_runV (As := [.int (nI 1), .int (nI (T p))]) (rest := []) ⟨hx, hb, hml, hown, hts⟩ (c_X6_step1 l D cI cJ h m0 m1 m2 m4 m9 m10 m11 m13 m16 m17 m18 m19 i3 tn sp pt u (p + 1) 0 c ST 1 (nI (T p)) (by omega) H.size) (cwV 2 hts gX6_one_X6_step1 rfl rfl rfl (by decide +kernel) ⟨Nat.le_of_ble_eq_true rfl, Nat.le_of_ble_eq_true rfl⟩) (zpV hK hN hZ hP hD hS hA [0, 2] rfl (by decide) 0 rfl rfl rfl) rfl rfl hl.1 rfl (lv_room (Nat.le_of_ble_eq_true rfl)) dX6_one_26 ⟨Nat.zero_le _, Nat.zero_le _⟩) hP hD hS hA [0, 2] [1] rfl rfl (by decide) (by decide) (fun w_45 H locs h_44 hP hD hS => ?_)
      obtain rfl := h_44
      have hP : va_P D vwCl [(m0, .inl (cI, 380, .inl S)), (h, .inr (6, [.ref m0, .ref m1, .ref m2, .int i3, .ref m4, .int (nI ((p + 1))), .int (nI 0), .int (nI ((c + 1))), .int (nI u), .ref m9, .ref m10, .ref m11, .int (nI tn), .ref m13, .int (nI sp), .int (nI pt), .ref m16, .ref m17, .ref m18, .ref m19])), (m9, .inl (cI, 124, .inl ((upd (upd ST (2 * c) (nI 1)) (2 * c + 1) (nI (T p))))))] H := hP
      have hD : va_D AA [(m0, .inl (cI, 380, .inl S)), (h, .inr (6, [.ref m0, .ref m1, .ref m2, .int i3, .ref m4, .int (nI ((p + 1))), .int (nI 0), .int (nI ((c + 1))), .int (nI u), .ref m9, .ref m10, .ref m11, .int (nI tn), .ref m13, .int (nI sp), .int (nI pt), .ref m16, .ref m17, .ref m18, .ref m19])), (m9, .inl (cI, 124, .inl ((upd (upd ST (2 * c) (nI 1)) (2 * c + 1) (nI (T p))))))] := hD
      refine lv_iconst (v := nI 1) hx hb dX6_one_29 (by decide) ?_
      have hP := hP.sub (ws' := [(h, .inr (6, [.ref m0, .ref m1, .ref m2, .int i3, .ref m4, .int (nI ((p + 1))), .int (nI 0), .int (nI ((c + 1))), .int (nI u), .ref m9, .ref m10, .ref m11, .int (nI tn), .ref m13, .int (nI sp), .int (nI pt), .ref m16, .ref m17, .ref m18, .ref m19])), (m0, .inl (cI, 380, .inl S)), (m9, .inl (cI, 124, .inl ((upd (upd ST (2 * c) (nI 1)) (2 * c + 1) (nI (T p))))))]) [1, 0, 2] rfl
      have hD := hD.sub (ws' := [(h, .inr (6, [.ref m0, .ref m1, .ref m2, .int i3, .ref m4, .int (nI ((p + 1))), .int (nI 0), .int (nI ((c + 1))), .int (nI u), .ref m9, .ref m10, .ref m11, .int (nI tn), .ref m13, .int (nI sp), .int (nI pt), .ref m16, .ref m17, .ref m18, .ref m19])), (m0, .inl (cI, 380, .inl S)), (m9, .inl (cI, 124, .inl ((upd (upd ST (2 * c) (nI 1)) (2 * c + 1) (nI (T p))))))]) [1, 0, 2] (by decide) rfl
      exact hret hP hD hS dX6_one_30 rfl (by obtain ⟨e1, e2, e3⟩ := zq_n hR (by omega) (znx_dg hnx) hnx; subst e1; subst e2; subst e3; exact ⟨_, _, _, show c + 1 ≤ p + 1 from (by omega), fun _ => ⟨rfl, (by rw [← (znx_ch hnx).1] <;> rfl), rfl⟩, (bI_t rfl).symm, rfl⟩)
  · refine zcsE (va_runV (As := []) (rest := []) ⟨hx, hb, hml, hown, hts⟩ (c_X6_look l D cI cJ h m0 m1 m2 m4 m9 m10 m11 m13 m16 m17 m18 m19 i3 tn sp pt S ST L u T p c 0 (by first | rfl | assumption | omega) (by first | rfl | assumption | omega) (by first | rfl | assumption | omega) (by first | rfl | assumption | omega) (by first | rfl | assumption | omega) (by omega) s.heap.size) (cwV 0 hts gX6_one_X6_look rfl rfl rfl (by decide +kernel) ⟨Nat.le_of_ble_eq_true rfl, Nat.le_of_ble_eq_true rfl⟩) (zpV hK hN hZ hP hD hS hA [0, 1] rfl (by decide) 0 rfl rfl rfl) rfl rfl hl.1 rfl (lv_room (Nat.le_of_ble_eq_true rfl)) dX6_one_1 ⟨Nat.zero_le _, Nat.zero_le _⟩) ?_
    refine zrw (if_neg hpL) ?_
    refine lv_istore_n (lv' := [(1, .int ((-1))), (0, .ref h)]) hx hb dX6_one_4 rfl hl (by decide) rfl (fun ls hl => ?_)
    refine lv_aload_n hx hb dX6_one_5 rfl (lv_at hl 1 rfl) ?_
    refine lv_iload_n hx hb dX6_one_6 rfl (lv_at hl 0 rfl) ?_
    refine zcsE (va_runV (As := [.int ((-1))]) (rest := []) ⟨hx, hb, hml, hown, hts⟩ (c_X6_isName_o l D cI cJ h m0 m1 m2 m4 m9 m10 m11 m13 m16 m17 m18 m19 i3 tn sp pt u p 0 c (by first | rfl | assumption | omega) s.heap.size) (cwV 1 hts gX6_one_X6_isName rfl rfl rfl (by decide +kernel) ⟨Nat.le_of_ble_eq_true rfl, Nat.le_of_ble_eq_true rfl⟩) (zpV hK hN hZ hP hD hS hA [0] rfl (by decide) 0 rfl rfl rfl) rfl rfl hl.1 rfl (lv_room (Nat.le_of_ble_eq_true rfl)) dX6_one_7 ⟨Nat.zero_le _, Nat.zero_le _⟩) ?_
    refine lv_if_eq (tgt := 31) hx hb dX6_one_10 (by decide) (fun c10_46 => ?_) (fun c10_46 => ?_)
    · have c10_46 : 0 = 0 := (nI_eq (a := 0) (b := 0) (by omega) (by omega)).mp c10_46
      refine lv_iload_n hx hb dX6_one_31 rfl (lv_at hl 0 rfl) ?_
      refine lv_bipush (v := nI 48) hx hb dX6_one_32 (by decide) ?_
      refine lv_bipush (v := nI 57) hx hb dX6_one_34 (by decide) ?_
      refine zcsE (va_runS (As := [.int ((-1)), .int (nI 48), .int (nI 57)]) (rest := []) ⟨hx, hb, hml, hown, hts⟩ (d_X6_in l D cI cJ ((-1)) (nI 48) (nI 57) 48 57 (by decide) (by decide) s.heap.size) (va_cwS 3 hts gX6_one_X6_in rfl rfl rfl (by decide +kernel) ⟨Nat.le_of_ble_eq_true rfl, Nat.le_of_ble_eq_true rfl⟩) (zpS hK hN hZ hP hD hS hA [] rfl (by decide)) rfl rfl hl.1 rfl (lv_room (Nat.le_of_ble_eq_true rfl)) dX6_one_36 ⟨Nat.zero_le _, Nat.zero_le _⟩) ?_
      refine lv_if_eq (tgt := 102) hx hb dX6_one_39 (by decide) (fun c39_47 => ?_) (fun c39_47 => ?_)
      · have c39_47 := bI_0.mp c39_47
        refine lv_iload_n hx hb dX6_one_102 rfl (lv_at hl 0 rfl) ?_
        refine lv_bipush (v := nI 33) hx hb dX6_one_103 (by decide) ?_
        refine lv_icmp_ne (tgt := 142) hx hb dX6_one_105 (by decide) (fun c105_48 => ?_) (fun c105_48 => ?_)
        · refine lv_iload_n hx hb dX6_one_142 rfl (lv_at hl 0 rfl) ?_
          refine lv_bipush (v := nI 40) hx hb dX6_one_143 (by decide) ?_
          refine lv_icmp_ne (tgt := 171) hx hb dX6_one_145 (by decide) (fun c145_49 => ?_) (fun c145_49 => ?_)
          · refine lv_iconst (v := nI 0) hx hb dX6_one_171 (by decide) ?_
            exact hret hP hD hS dX6_one_172 rfl (by obtain ⟨e1, e2⟩ := zq_o hR (by omega); subst e1; subst e2; exact ⟨_, _, _, hcp, fun h9 => (by cases h9), (bI_f (by decide)).symm, rfl⟩)
          · exact absurd c145_49 (by decide)
        · exact absurd c105_48 (by decide)
      · have c39_47 := bI_n0.mp c39_47
        exact absurd c39_47 (by decide)
    · have c10_46 : ¬ (0 = 0) := fun h9 => c10_46 ((nI_eq (a := 0) (b := 0) (by omega) (by omega)).mpr h9)
      exact absurd c10_46 (by omega)
set_option maxHeartbeats 4000000 in
set_option maxRecDepth 100000 in
theorem c_X6_product_0 (l : Launch) (D : va_G) (cI cJ : ClassId) (h : Nat) (m0 : Nat) (m1 : Nat) (m2 : Nat) (m4 : Nat) (m9 : Nat) (m10 : Nat) (m11 : Nat) (m13 : Nat) (m16 : Nat) (m17 : Nat) (m18 : Nat) (m19 : Nat) (i3 : Int32) (tn : Nat) (sp : Nat) (pt : Nat) (S : Nat → Int32) (ST : Nat → Int32) (L : Nat) (u : Nat) (T : Nat → Nat) (p : Nat) (c : Nat) (b : Bool) (q : Nat) (tl : zTks) (hL : L ≤ 60) (hu1 : u ≤ 1) (hT : ∀ i, i < L → T i < 256) (htb : ∀ i, i < L → S (296 + i) = nI (T i)) (hS4 : S 4 = nI L) (hp : p ≤ L) (hcp : c ≤ p) (hR : zLS T L (zQ T L u 5) 1 p = (b, q, tl)) : zMi l yX6_product wsX6_product ({ frames := 32, cells := 0, slots := 0, locals := 675 } : Room) D [(cI, .int), (cJ, .array .int)] [.ref h] [(h, .inr (6, [.ref m0, .ref m1, .ref m2, .int i3, .ref m4, .int (nI p), .int (nI 0), .int (nI c), .int (nI u), .ref m9, .ref m10, .ref m11, .int (nI tn), .ref m13, .int (nI sp), .int (nI pt), .ref m16, .ref m17, .ref m18, .ref m19])), (m0, .inl (cI, 380, .inl S)), (m9, .inl (cI, 124, .inl ST))] (fun r w => ∃ (c9 o9 : Nat) (ST9 : Nat → Int32), c9 ≤ q ∧ (b = true → c9 = c + tl.length ∧ ST9 = zap2 u ST c tl ∧ o9 = 0) ∧ r = bI (b = true) ∧ w = [(h, .inr (6, [.ref m0, .ref m1, .ref m2, .int i3, .ref m4, .int (nI q), .int (nI o9), .int (nI c9), .int (nI u), .ref m9, .ref m10, .ref m11, .int (nI tn), .ref m13, .int (nI sp), .int (nI pt), .ref m16, .ref m17, .ref m18, .ref m19])), (m0, .inl (cI, 380, .inl S)), (m9, .inl (cI, 124, .inl ST9))]) := by
  refine zMi.start (cc := cX6_product) (maxL := 2) (rt := .boolean) (by first | decide | decide +kernel) rfl (Nat.le_of_ble_eq_true rfl) ?_
  intro pg ev s mt args below meth cd ls AA QQ ⟨hx, hb, hml, hr, hlocks, hown, hts, hK, hN, hZ, hP, hD, hA, hS, hl⟩ hret
  have hown : s.vm.findClass RX6 = some mt.cls := hown
  have hl : lv_has ls 2 [(0, .ref h)] := hl
  have hin6 : ∀ w ∈ wsX60, w ∈ wsX6_product := fun w h => List.mem_cons_of_mem _ (List.mem_append_right _ (h))
  have hR : zLv T L 4 (zLS T L (zQ T L u 5) 0) p = (b, q, tl) := hR
  obtain ⟨b1, q1, t1, hR1⟩ : ∃ (b0 : Bool) (q0 : Nat) (t0 : zTks), zLS T L (zQ T L u 5) 0 p = (b0, q0, t0) := ⟨_, _, _, rfl⟩
  have hg1 := (zLS_gd (T := T) (zQ_gd (T := T) (L := L) (u := u) 5) 0) p (by omega)
  rw [hR1] at hg1
  obtain ⟨hga1, hgb1, hgc1⟩ : p ≤ q1 ∧ q1 ≤ L ∧ (b1 = true → p < q1 ∧ t1.length ≤ q1 - p ∧ zw1 t1) := hg1
  refine lv_aload_n hx hb dX6_product_0 rfl (lv_at hl 0 rfl) ?_
  refine zci (wr := []) (va_runV (As := []) (rest := []) ⟨hx, hb, hml, hown, hts⟩ (c_X6_one_0 l D cI cJ h m0 m1 m2 m4 m9 m10 m11 m13 m16 m17 m18 m19 i3 tn sp pt S ST L u T p c b1 q1 t1 (by first | rfl | assumption | omega) (by first | rfl | assumption | omega) (by first | rfl | assumption | omega) (by first | rfl | assumption | omega) (by first | rfl | assumption | omega) (by first | rfl | assumption | omega) (by first | rfl | assumption | omega) hR1 s.heap.size) (cwV 0 hts gX6_product_X6_one rfl rfl rfl (by decide +kernel) ⟨Nat.le_of_ble_eq_true rfl, Nat.le_of_ble_eq_true rfl⟩) (zpV hK hN hZ hP hD hS hA [0, 1, 2] rfl (by decide) 0 rfl rfl rfl) rfl rfl hl.1 rfl (lv_room (Nat.le_of_ble_eq_true rfl)) dX6_product_1 ⟨Nat.zero_le _, Nat.zero_le _⟩) hP hD hS hA [0, 1, 2] [] rfl rfl (by decide) (by decide) (fun r_3 w_2 H locs h_1 hP hD hS => ?_)
  obtain ⟨c9_4, o9_5, ST9_6, hq9_7, hx9_8, rfl, rfl⟩ := h_1
  have hP : va_P D vwCl [(h, .inr (6, [.ref m0, .ref m1, .ref m2, .int i3, .ref m4, .int (nI q1), .int (nI o9_5), .int (nI c9_4), .int (nI u), .ref m9, .ref m10, .ref m11, .int (nI tn), .ref m13, .int (nI sp), .int (nI pt), .ref m16, .ref m17, .ref m18, .ref m19])), (m0, .inl (cI, 380, .inl S)), (m9, .inl (cI, 124, .inl ST9_6))] H := hP
  have hD : va_D AA [(h, .inr (6, [.ref m0, .ref m1, .ref m2, .int i3, .ref m4, .int (nI q1), .int (nI o9_5), .int (nI c9_4), .int (nI u), .ref m9, .ref m10, .ref m11, .int (nI tn), .ref m13, .int (nI sp), .int (nI pt), .ref m16, .ref m17, .ref m18, .ref m19])), (m0, .inl (cI, 380, .inl S)), (m9, .inl (cI, 124, .inl ST9_6))] := hD
  refine lv_if_ne (tgt := 9) hx hb dX6_product_4 (by decide) (fun c4_9 => ?_) (fun c4_9 => ?_)
  · have c4_9 := bI_n0.mp c4_9
    obtain ⟨hgd1, hge1, hgf1⟩ := hgc1 c4_9
    obtain ⟨he1, hE1, ho1⟩ := hx9_8 c4_9
    subst he1; subst hE1; subst ho1
    have hz := zLv_tt hR hR1 c4_9
    have L_9 : ∀ (fu : Nat) (f : Nat) (pv : Nat) (ta : zTks) (hn : f < fu) (hz : zct ta (zLp T L 4 (zLS T L (zQ T L u 5) 0) f pv) = (b, q, tl)) (hf : L - pv < f) (hpv : pv ≤ L) (hca : c + ta.length ≤ pv), ∀ (ls : Array Slot), lv_has ls 2 [(0, .ref h)] → ∀ (H : Heap) (locs : List Loc), va_P D vwCl [(h, .inr (6, [.ref m0, .ref m1, .ref m2, .int i3, .ref m4, .int (nI pv), .int (nI 0), .int (nI ((c + ta.length))), .int (nI u), .ref m9, .ref m10, .ref m11, .int (nI tn), .ref m13, .int (nI sp), .int (nI pt), .ref m16, .ref m17, .ref m18, .ref m19])), (m0, .inl (cI, 380, .inl S)), (m9, .inl (cI, 124, .inl (zap2 u ST c ta)))] H → va_D AA [(h, .inr (6, [.ref m0, .ref m1, .ref m2, .int i3, .ref m4, .int (nI pv), .int (nI 0), .int (nI ((c + ta.length))), .int (nI u), .ref m9, .ref m10, .ref m11, .int (nI tn), .ref m13, .int (nI sp), .int (nI pt), .ref m16, .ref m17, .ref m18, .ref m19])), (m0, .inl (cI, 380, .inl S)), (m9, .inl (cI, 124, .inl (zap2 u ST c ta)))] → va_S AA s.heap H locs → W pg l ev ({ frames := 32, cells := 0, slots := 0, locals := 675 } : Room) s mt args below meth cd H locs 0 0 QQ (F0 mt 9 ls []) := by
      intro fu
      induction fu with
      | zero =>
        intro  f pv ta  hn
        exact absurd hn (by omega)
      | succ fu ih_9 =>
        intro  f pv ta  hn hz hf hpv hca ls hl H locs hP hD hS
        obtain ⟨f1, rfl⟩ : ∃ f1, f = f1 + 1 := ⟨f - 1, by omega⟩
        refine lv_aload_n hx hb dX6_product_9 rfl (lv_at hl 0 rfl) ?_
        by_cases hpL : pv < L
        · refine zcsE (va_runV (As := []) (rest := []) ⟨hx, hb, hml, hown, hts⟩ (c_X6_look l D cI cJ h m0 m1 m2 m4 m9 m10 m11 m13 m16 m17 m18 m19 i3 tn sp pt S ST L u T pv ((c + ta.length)) 0 (by first | rfl | assumption | omega) (by first | rfl | assumption | omega) (by first | rfl | assumption | omega) (by first | rfl | assumption | omega) (by first | rfl | assumption | omega) (by omega) H.size) (cwV 0 hts gX6_product_X6_look rfl rfl rfl (by decide +kernel) ⟨Nat.le_of_ble_eq_true rfl, Nat.le_of_ble_eq_true rfl⟩) (zpV hK hN hZ hP hD hS hA [0, 1] rfl (by decide) 0 rfl rfl rfl) rfl rfl hl.1 rfl (lv_room (Nat.le_of_ble_eq_true rfl)) dX6_product_10 ⟨Nat.zero_le _, Nat.zero_le _⟩) ?_
          refine zrw (if_pos hpL) ?_
          refine lv_bipush (v := nI 42) hx hb dX6_product_13 (by decide) ?_
          refine lv_icmp_eq (tgt := 36) hx hb dX6_product_15 (by decide) (fun c15_10 => ?_) (fun c15_10 => ?_)
          · have c15_10 : (T pv) = 42 := (nI_eq (a := T pv) (b := 42) (by have h91 := hT pv (by omega); omega) (by have h91 := hT pv (by omega); omega)).mp c15_10
            refine lv_aload_n hx hb dX6_product_36 rfl (lv_at hl 0 rfl) ?_
            refine zcsE (va_runV (As := []) (rest := []) ⟨hx, hb, hml, hown, hts⟩ (c_X6_look l D cI cJ h m0 m1 m2 m4 m9 m10 m11 m13 m16 m17 m18 m19 i3 tn sp pt S ST L u T pv ((c + ta.length)) 0 (by first | rfl | assumption | omega) (by first | rfl | assumption | omega) (by first | rfl | assumption | omega) (by first | rfl | assumption | omega) (by first | rfl | assumption | omega) (by omega) H.size) (cwV 0 hts gX6_product_X6_look rfl rfl rfl (by decide +kernel) ⟨Nat.le_of_ble_eq_true rfl, Nat.le_of_ble_eq_true rfl⟩) (zpV hK hN hZ hP hD hS hA [0, 1] rfl (by decide) 0 rfl rfl rfl) rfl rfl hl.1 rfl (lv_room (Nat.le_of_ble_eq_true rfl)) dX6_product_37 ⟨Nat.zero_le _, Nat.zero_le _⟩) ?_
            refine zrw (if_pos hpL) ?_
            refine lv_istore_n (lv' := [(1, .int (nI (T pv))), (0, .ref h)]) hx hb dX6_product_40 rfl hl (by decide) rfl (fun ls hl => ?_)
            refine lv_aload_n hx hb dX6_product_41 rfl (lv_at hl 1 rfl) ?_
            refine lv_dup hx hb dX6_product_42 rfl ?_
            refine va_get (ci := 6) (v := .int (nI pv)) (C := RX6) (T := TX6) (N := 20) hx hb hts hin6 hown hK hP 0 rfl rfl 5 (by decide) (hts (.fieldLink RX6 61 "UpAllRoundModel" "at" "I") (List.mem_of_getElem? (i := 1) rfl)) (fun _ h9 => h9) rfl dX6_product_43 ?_
            refine lv_iconst (v := nI 1) hx hb dX6_product_46 (by decide) ?_
            refine lv_iadd hx hb dX6_product_47 ?_
            refine zrw (nI_add _ _) ?_
            refine va_put (ci := 6) (v := .int (nI (pv + 1))) (ty := .int) (C := RX6) (T := TX6) (N := 20) hx hb hts hin6 tyX6 tyX6_ok nmX6 hown hK hP hD hS 0 rfl rfl 5 (by decide) (hts (.fieldLink RX6 61 "UpAllRoundModel" "at" "I") (List.mem_of_getElem? (i := 1) rfl)) (fun _ h9 => h9) rfl (by decide +kernel) rfl rfl (Nat.le_of_ble_eq_true rfl) dX6_product_48 (fun H locs hP hD hS => ?_)
            have hP : va_P D vwCl [(h, .inr (6, [.ref m0, .ref m1, .ref m2, .int i3, .ref m4, .int (nI (pv + 1)), .int (nI 0), .int (nI ((c + ta.length))), .int (nI u), .ref m9, .ref m10, .ref m11, .int (nI tn), .ref m13, .int (nI sp), .int (nI pt), .ref m16, .ref m17, .ref m18, .ref m19])), (m0, .inl (cI, 380, .inl S)), (m9, .inl (cI, 124, .inl (zap2 u ST c ta)))] H := hP
            have hD : va_D AA [(h, .inr (6, [.ref m0, .ref m1, .ref m2, .int i3, .ref m4, .int (nI (pv + 1)), .int (nI 0), .int (nI ((c + ta.length))), .int (nI u), .ref m9, .ref m10, .ref m11, .int (nI tn), .ref m13, .int (nI sp), .int (nI pt), .ref m16, .ref m17, .ref m18, .ref m19])), (m0, .inl (cI, 380, .inl S)), (m9, .inl (cI, 124, .inl (zap2 u ST c ta)))] := hD
            refine lv_aload_n hx hb dX6_product_51 rfl (lv_at hl 1 rfl) ?_
            obtain ⟨b2, q2, t2, hR2⟩ : ∃ (b0 : Bool) (q0 : Nat) (t0 : zTks), zLS T L (zQ T L u 5) 0 (pv + 1) = (b0, q0, t0) := ⟨_, _, _, rfl⟩
            have hg2 := (zLS_gd (T := T) (zQ_gd (T := T) (L := L) (u := u) 5) 0) (pv + 1) (by omega)
            rw [hR2] at hg2
            obtain ⟨hga2, hgb2, hgc2⟩ : (pv + 1) ≤ q2 ∧ q2 ≤ L ∧ (b2 = true → (pv + 1) < q2 ∧ t2.length ≤ q2 - (pv + 1) ∧ zw1 t2) := hg2
            refine zci (wr := []) (va_runV (As := []) (rest := []) ⟨hx, hb, hml, hown, hts⟩ (c_X6_one_0 l D cI cJ h m0 m1 m2 m4 m9 m10 m11 m13 m16 m17 m18 m19 i3 tn sp pt S (zap2 u ST c ta) L u T (pv + 1) ((c + ta.length)) b2 q2 t2 (by first | rfl | assumption | omega) (by first | rfl | assumption | omega) (by first | rfl | assumption | omega) (by first | rfl | assumption | omega) (by first | rfl | assumption | omega) (by omega) (by omega) hR2 H.size) (cwV 0 hts gX6_product_X6_one rfl rfl rfl (by decide +kernel) ⟨Nat.le_of_ble_eq_true rfl, Nat.le_of_ble_eq_true rfl⟩) (zpV hK hN hZ hP hD hS hA [0, 1, 2] rfl (by decide) 0 rfl rfl rfl) rfl rfl hl.1 rfl (lv_room (Nat.le_of_ble_eq_true rfl)) dX6_product_52 ⟨Nat.zero_le _, Nat.zero_le _⟩) hP hD hS hA [0, 1, 2] [] rfl rfl (by decide) (by decide) (fun r_13 w_12 H locs h_11 hP hD hS => ?_)
            obtain ⟨c9_14, o9_15, ST9_16, hq9_17, hx9_18, rfl, rfl⟩ := h_11
            have hP : va_P D vwCl [(h, .inr (6, [.ref m0, .ref m1, .ref m2, .int i3, .ref m4, .int (nI q2), .int (nI o9_15), .int (nI c9_14), .int (nI u), .ref m9, .ref m10, .ref m11, .int (nI tn), .ref m13, .int (nI sp), .int (nI pt), .ref m16, .ref m17, .ref m18, .ref m19])), (m0, .inl (cI, 380, .inl S)), (m9, .inl (cI, 124, .inl ST9_16))] H := hP
            have hD : va_D AA [(h, .inr (6, [.ref m0, .ref m1, .ref m2, .int i3, .ref m4, .int (nI q2), .int (nI o9_15), .int (nI c9_14), .int (nI u), .ref m9, .ref m10, .ref m11, .int (nI tn), .ref m13, .int (nI sp), .int (nI pt), .ref m16, .ref m17, .ref m18, .ref m19])), (m0, .inl (cI, 380, .inl S)), (m9, .inl (cI, 124, .inl ST9_16))] := hD
            refine lv_if_ne (tgt := 60) hx hb dX6_product_55 (by decide) (fun c55_19 => ?_) (fun c55_19 => ?_)
            · have c55_19 := bI_n0.mp c55_19
              obtain ⟨hgd2, hge2, hgf2⟩ := hgc2 c55_19
              obtain ⟨he2, hE2, ho2⟩ := hx9_18 c55_19
              subst he2; subst hE2; subst ho2
              refine lv_aload_n hx hb dX6_product_60 rfl (lv_at hl 1 rfl) ?_
              refine lv_iconst (v := nI 3) hx hb dX6_product_61 (by decide) ?_
              refine lv_iload_n hx hb dX6_product_62 rfl (lv_at hl 0 rfl) ?_
              refine zcv (wr := [(m0, .inl (cI, 380, .inl S))]) (va_runV (As := [.int (nI 3), .int (nI (T pv))]) (rest := []) ⟨hx, hb, hml, hown, hts⟩ (c_X6_step1 l D cI cJ h m0 m1 m2 m4 m9 m10 m11 m13 m16 m17 m18 m19 i3 tn sp pt u q2 0 ((c + ta.length + t2.length)) (zap2 u (zap2 u ST c ta) (c + ta.length) t2) 3 (nI (T pv)) (by omega) H.size) (cwV 2 hts gX6_product_X6_step1 rfl rfl rfl (by decide +kernel) ⟨Nat.le_of_ble_eq_true rfl, Nat.le_of_ble_eq_true rfl⟩) (zpV hK hN hZ hP hD hS hA [0, 2] rfl (by decide) 0 rfl rfl rfl) rfl rfl hl.1 rfl (lv_room (Nat.le_of_ble_eq_true rfl)) dX6_product_63 ⟨Nat.zero_le _, Nat.zero_le _⟩) hP hD hS hA [0, 2] [1] rfl rfl (by decide) (by decide) (fun w_21 H locs h_20 hP hD hS => ?_)
              obtain rfl := h_20
              have hP : va_P D vwCl [(m0, .inl (cI, 380, .inl S)), (h, .inr (6, [.ref m0, .ref m1, .ref m2, .int i3, .ref m4, .int (nI q2), .int (nI 0), .int (nI ((((c + ta.length + t2.length)) + 1))), .int (nI u), .ref m9, .ref m10, .ref m11, .int (nI tn), .ref m13, .int (nI sp), .int (nI pt), .ref m16, .ref m17, .ref m18, .ref m19])), (m9, .inl (cI, 124, .inl ((upd (upd (zap2 u (zap2 u ST c ta) (c + ta.length) t2) (2 * ((c + ta.length + t2.length))) (nI 3)) (2 * ((c + ta.length + t2.length)) + 1) (nI (T pv))))))] H := hP
              have hD : va_D AA [(m0, .inl (cI, 380, .inl S)), (h, .inr (6, [.ref m0, .ref m1, .ref m2, .int i3, .ref m4, .int (nI q2), .int (nI 0), .int (nI ((((c + ta.length + t2.length)) + 1))), .int (nI u), .ref m9, .ref m10, .ref m11, .int (nI tn), .ref m13, .int (nI sp), .int (nI pt), .ref m16, .ref m17, .ref m18, .ref m19])), (m9, .inl (cI, 124, .inl ((upd (upd (zap2 u (zap2 u ST c ta) (c + ta.length) t2) (2 * ((c + ta.length + t2.length))) (nI 3)) (2 * ((c + ta.length + t2.length)) + 1) (nI (T pv))))))] := hD
              refine lv_goto (tgt := 9) hx hb dX6_product_66 (by decide) ?_
              rw [zap23, zlen1 (t := (3, T pv))] at hP hD
              exact ih_9   f1 q2 ((ta ++ (t2 ++ [(3, T pv)]))) (by omega) (zLt (by decide) hz ⟨by omega, zlv_4.mpr (by omega)⟩ hR2 (by assumption)) (by omega) (by omega) (by rw [← zlen1]; omega) ls (lv_sub hl [1] rfl) H locs (hP.sub [1, 0, 2] rfl) (hD.sub [1, 0, 2] (by decide) rfl) hS
            · have c55_19 := bI_0.mp c55_19
              refine lv_iconst (v := nI 0) hx hb dX6_product_58 (by decide) ?_
              exact hret hP hD hS dX6_product_59 rfl (by obtain ⟨e1, e2⟩ := zLf hz ⟨by omega, zlv_4.mpr (by omega)⟩ hR2 (by assumption); subst e1; subst e2; exact ⟨_, _, _, hq9_17, fun h9 => (by cases h9), (bI_f (by decide)).symm, rfl⟩)
          · have c15_10 : ¬ ((T pv) = 42) := fun h9 => c15_10 ((nI_eq (a := T pv) (b := 42) (by have h91 := hT pv (by omega); omega) (by have h91 := hT pv (by omega); omega)).mpr h9)
            refine lv_aload_n hx hb dX6_product_18 rfl (lv_at hl 0 rfl) ?_
            refine zcsE (va_runV (As := []) (rest := []) ⟨hx, hb, hml, hown, hts⟩ (c_X6_look l D cI cJ h m0 m1 m2 m4 m9 m10 m11 m13 m16 m17 m18 m19 i3 tn sp pt S ST L u T pv ((c + ta.length)) 0 (by first | rfl | assumption | omega) (by first | rfl | assumption | omega) (by first | rfl | assumption | omega) (by first | rfl | assumption | omega) (by first | rfl | assumption | omega) (by omega) H.size) (cwV 0 hts gX6_product_X6_look rfl rfl rfl (by decide +kernel) ⟨Nat.le_of_ble_eq_true rfl, Nat.le_of_ble_eq_true rfl⟩) (zpV hK hN hZ hP hD hS hA [0, 1] rfl (by decide) 0 rfl rfl rfl) rfl rfl hl.1 rfl (lv_room (Nat.le_of_ble_eq_true rfl)) dX6_product_19 ⟨Nat.zero_le _, Nat.zero_le _⟩) ?_
            refine zrw (if_pos hpL) ?_
            refine lv_bipush (v := nI 47) hx hb dX6_product_22 (by decide) ?_
            refine lv_icmp_eq (tgt := 36) hx hb dX6_product_24 (by decide) (fun c24_22 => ?_) (fun c24_22 => ?_)
            · have c24_22 : (T pv) = 47 := (nI_eq (a := T pv) (b := 47) (by have h91 := hT pv (by omega); omega) (by have h91 := hT pv (by omega); omega)).mp c24_22
              refine lv_aload_n hx hb dX6_product_36 rfl (lv_at hl 0 rfl) ?_
              refine zcsE (va_runV (As := []) (rest := []) ⟨hx, hb, hml, hown, hts⟩ (c_X6_look l D cI cJ h m0 m1 m2 m4 m9 m10 m11 m13 m16 m17 m18 m19 i3 tn sp pt S ST L u T pv ((c + ta.length)) 0 (by first | rfl | assumption | omega) (by first | rfl | assumption | omega) (by first | rfl | assumption | omega) (by first | rfl | assumption | omega) (by first | rfl | assumption | omega) (by omega) H.size) (cwV 0 hts gX6_product_X6_look rfl rfl rfl (by decide +kernel) ⟨Nat.le_of_ble_eq_true rfl, Nat.le_of_ble_eq_true rfl⟩) (zpV hK hN hZ hP hD hS hA [0, 1] rfl (by decide) 0 rfl rfl rfl) rfl rfl hl.1 rfl (lv_room (Nat.le_of_ble_eq_true rfl)) dX6_product_37 ⟨Nat.zero_le _, Nat.zero_le _⟩) ?_
              refine zrw (if_pos hpL) ?_
              refine lv_istore_n (lv' := [(1, .int (nI (T pv))), (0, .ref h)]) hx hb dX6_product_40 rfl hl (by decide) rfl (fun ls hl => ?_)
              refine lv_aload_n hx hb dX6_product_41 rfl (lv_at hl 1 rfl) ?_
              refine lv_dup hx hb dX6_product_42 rfl ?_
              refine va_get (ci := 6) (v := .int (nI pv)) (C := RX6) (T := TX6) (N := 20) hx hb hts hin6 hown hK hP 0 rfl rfl 5 (by decide) (hts (.fieldLink RX6 61 "UpAllRoundModel" "at" "I") (List.mem_of_getElem? (i := 1) rfl)) (fun _ h9 => h9) rfl dX6_product_43 ?_
              refine lv_iconst (v := nI 1) hx hb dX6_product_46 (by decide) ?_
              refine lv_iadd hx hb dX6_product_47 ?_
              refine zrw (nI_add _ _) ?_
              refine va_put (ci := 6) (v := .int (nI (pv + 1))) (ty := .int) (C := RX6) (T := TX6) (N := 20) hx hb hts hin6 tyX6 tyX6_ok nmX6 hown hK hP hD hS 0 rfl rfl 5 (by decide) (hts (.fieldLink RX6 61 "UpAllRoundModel" "at" "I") (List.mem_of_getElem? (i := 1) rfl)) (fun _ h9 => h9) rfl (by decide +kernel) rfl rfl (Nat.le_of_ble_eq_true rfl) dX6_product_48 (fun H locs hP hD hS => ?_)
              have hP : va_P D vwCl [(h, .inr (6, [.ref m0, .ref m1, .ref m2, .int i3, .ref m4, .int (nI (pv + 1)), .int (nI 0), .int (nI ((c + ta.length))), .int (nI u), .ref m9, .ref m10, .ref m11, .int (nI tn), .ref m13, .int (nI sp), .int (nI pt), .ref m16, .ref m17, .ref m18, .ref m19])), (m0, .inl (cI, 380, .inl S)), (m9, .inl (cI, 124, .inl (zap2 u ST c ta)))] H := hP
              have hD : va_D AA [(h, .inr (6, [.ref m0, .ref m1, .ref m2, .int i3, .ref m4, .int (nI (pv + 1)), .int (nI 0), .int (nI ((c + ta.length))), .int (nI u), .ref m9, .ref m10, .ref m11, .int (nI tn), .ref m13, .int (nI sp), .int (nI pt), .ref m16, .ref m17, .ref m18, .ref m19])), (m0, .inl (cI, 380, .inl S)), (m9, .inl (cI, 124, .inl (zap2 u ST c ta)))] := hD
              refine lv_aload_n hx hb dX6_product_51 rfl (lv_at hl 1 rfl) ?_
              obtain ⟨b2, q2, t2, hR2⟩ : ∃ (b0 : Bool) (q0 : Nat) (t0 : zTks), zLS T L (zQ T L u 5) 0 (pv + 1) = (b0, q0, t0) := ⟨_, _, _, rfl⟩
              have hg2 := (zLS_gd (T := T) (zQ_gd (T := T) (L := L) (u := u) 5) 0) (pv + 1) (by omega)
              rw [hR2] at hg2
              obtain ⟨hga2, hgb2, hgc2⟩ : (pv + 1) ≤ q2 ∧ q2 ≤ L ∧ (b2 = true → (pv + 1) < q2 ∧ t2.length ≤ q2 - (pv + 1) ∧ zw1 t2) := hg2
              refine zci (wr := []) (va_runV (As := []) (rest := []) ⟨hx, hb, hml, hown, hts⟩ (c_X6_one_0 l D cI cJ h m0 m1 m2 m4 m9 m10 m11 m13 m16 m17 m18 m19 i3 tn sp pt S (zap2 u ST c ta) L u T (pv + 1) ((c + ta.length)) b2 q2 t2 (by first | rfl | assumption | omega) (by first | rfl | assumption | omega) (by first | rfl | assumption | omega) (by first | rfl | assumption | omega) (by first | rfl | assumption | omega) (by omega) (by omega) hR2 H.size) (cwV 0 hts gX6_product_X6_one rfl rfl rfl (by decide +kernel) ⟨Nat.le_of_ble_eq_true rfl, Nat.le_of_ble_eq_true rfl⟩) (zpV hK hN hZ hP hD hS hA [0, 1, 2] rfl (by decide) 0 rfl rfl rfl) rfl rfl hl.1 rfl (lv_room (Nat.le_of_ble_eq_true rfl)) dX6_product_52 ⟨Nat.zero_le _, Nat.zero_le _⟩) hP hD hS hA [0, 1, 2] [] rfl rfl (by decide) (by decide) (fun r_25 w_24 H locs h_23 hP hD hS => ?_)
              obtain ⟨c9_26, o9_27, ST9_28, hq9_29, hx9_30, rfl, rfl⟩ := h_23
              have hP : va_P D vwCl [(h, .inr (6, [.ref m0, .ref m1, .ref m2, .int i3, .ref m4, .int (nI q2), .int (nI o9_27), .int (nI c9_26), .int (nI u), .ref m9, .ref m10, .ref m11, .int (nI tn), .ref m13, .int (nI sp), .int (nI pt), .ref m16, .ref m17, .ref m18, .ref m19])), (m0, .inl (cI, 380, .inl S)), (m9, .inl (cI, 124, .inl ST9_28))] H := hP
              have hD : va_D AA [(h, .inr (6, [.ref m0, .ref m1, .ref m2, .int i3, .ref m4, .int (nI q2), .int (nI o9_27), .int (nI c9_26), .int (nI u), .ref m9, .ref m10, .ref m11, .int (nI tn), .ref m13, .int (nI sp), .int (nI pt), .ref m16, .ref m17, .ref m18, .ref m19])), (m0, .inl (cI, 380, .inl S)), (m9, .inl (cI, 124, .inl ST9_28))] := hD
              refine lv_if_ne (tgt := 60) hx hb dX6_product_55 (by decide) (fun c55_31 => ?_) (fun c55_31 => ?_)
              · have c55_31 := bI_n0.mp c55_31
                obtain ⟨hgd2, hge2, hgf2⟩ := hgc2 c55_31
                obtain ⟨he2, hE2, ho2⟩ := hx9_30 c55_31
                subst he2; subst hE2; subst ho2
                refine lv_aload_n hx hb dX6_product_60 rfl (lv_at hl 1 rfl) ?_
                refine lv_iconst (v := nI 3) hx hb dX6_product_61 (by decide) ?_
                refine lv_iload_n hx hb dX6_product_62 rfl (lv_at hl 0 rfl) ?_
                refine zcv (wr := [(m0, .inl (cI, 380, .inl S))]) (va_runV (As := [.int (nI 3), .int (nI (T pv))]) (rest := []) ⟨hx, hb, hml, hown, hts⟩ (c_X6_step1 l D cI cJ h m0 m1 m2 m4 m9 m10 m11 m13 m16 m17 m18 m19 i3 tn sp pt u q2 0 ((c + ta.length + t2.length)) (zap2 u (zap2 u ST c ta) (c + ta.length) t2) 3 (nI (T pv)) (by omega) H.size) (cwV 2 hts gX6_product_X6_step1 rfl rfl rfl (by decide +kernel) ⟨Nat.le_of_ble_eq_true rfl, Nat.le_of_ble_eq_true rfl⟩) (zpV hK hN hZ hP hD hS hA [0, 2] rfl (by decide) 0 rfl rfl rfl) rfl rfl hl.1 rfl (lv_room (Nat.le_of_ble_eq_true rfl)) dX6_product_63 ⟨Nat.zero_le _, Nat.zero_le _⟩) hP hD hS hA [0, 2] [1] rfl rfl (by decide) (by decide) (fun w_33 H locs h_32 hP hD hS => ?_)
                obtain rfl := h_32
                have hP : va_P D vwCl [(m0, .inl (cI, 380, .inl S)), (h, .inr (6, [.ref m0, .ref m1, .ref m2, .int i3, .ref m4, .int (nI q2), .int (nI 0), .int (nI ((((c + ta.length + t2.length)) + 1))), .int (nI u), .ref m9, .ref m10, .ref m11, .int (nI tn), .ref m13, .int (nI sp), .int (nI pt), .ref m16, .ref m17, .ref m18, .ref m19])), (m9, .inl (cI, 124, .inl ((upd (upd (zap2 u (zap2 u ST c ta) (c + ta.length) t2) (2 * ((c + ta.length + t2.length))) (nI 3)) (2 * ((c + ta.length + t2.length)) + 1) (nI (T pv))))))] H := hP
                have hD : va_D AA [(m0, .inl (cI, 380, .inl S)), (h, .inr (6, [.ref m0, .ref m1, .ref m2, .int i3, .ref m4, .int (nI q2), .int (nI 0), .int (nI ((((c + ta.length + t2.length)) + 1))), .int (nI u), .ref m9, .ref m10, .ref m11, .int (nI tn), .ref m13, .int (nI sp), .int (nI pt), .ref m16, .ref m17, .ref m18, .ref m19])), (m9, .inl (cI, 124, .inl ((upd (upd (zap2 u (zap2 u ST c ta) (c + ta.length) t2) (2 * ((c + ta.length + t2.length))) (nI 3)) (2 * ((c + ta.length + t2.length)) + 1) (nI (T pv))))))] := hD
                refine lv_goto (tgt := 9) hx hb dX6_product_66 (by decide) ?_
                rw [zap23, zlen1 (t := (3, T pv))] at hP hD
                exact ih_9   f1 q2 ((ta ++ (t2 ++ [(3, T pv)]))) (by omega) (zLt (by decide) hz ⟨by omega, zlv_4.mpr (by omega)⟩ hR2 (by assumption)) (by omega) (by omega) (by rw [← zlen1]; omega) ls (lv_sub hl [1] rfl) H locs (hP.sub [1, 0, 2] rfl) (hD.sub [1, 0, 2] (by decide) rfl) hS
              · have c55_31 := bI_0.mp c55_31
                refine lv_iconst (v := nI 0) hx hb dX6_product_58 (by decide) ?_
                exact hret hP hD hS dX6_product_59 rfl (by obtain ⟨e1, e2⟩ := zLf hz ⟨by omega, zlv_4.mpr (by omega)⟩ hR2 (by assumption); subst e1; subst e2; exact ⟨_, _, _, hq9_29, fun h9 => (by cases h9), (bI_f (by decide)).symm, rfl⟩)
            · have c24_22 : ¬ ((T pv) = 47) := fun h9 => c24_22 ((nI_eq (a := T pv) (b := 47) (by have h91 := hT pv (by omega); omega) (by have h91 := hT pv (by omega); omega)).mpr h9)
              refine lv_aload_n hx hb dX6_product_27 rfl (lv_at hl 0 rfl) ?_
              refine zcsE (va_runV (As := []) (rest := []) ⟨hx, hb, hml, hown, hts⟩ (c_X6_look l D cI cJ h m0 m1 m2 m4 m9 m10 m11 m13 m16 m17 m18 m19 i3 tn sp pt S ST L u T pv ((c + ta.length)) 0 (by first | rfl | assumption | omega) (by first | rfl | assumption | omega) (by first | rfl | assumption | omega) (by first | rfl | assumption | omega) (by first | rfl | assumption | omega) (by omega) H.size) (cwV 0 hts gX6_product_X6_look rfl rfl rfl (by decide +kernel) ⟨Nat.le_of_ble_eq_true rfl, Nat.le_of_ble_eq_true rfl⟩) (zpV hK hN hZ hP hD hS hA [0, 1] rfl (by decide) 0 rfl rfl rfl) rfl rfl hl.1 rfl (lv_room (Nat.le_of_ble_eq_true rfl)) dX6_product_28 ⟨Nat.zero_le _, Nat.zero_le _⟩) ?_
              refine zrw (if_pos hpL) ?_
              refine lv_bipush (v := nI 37) hx hb dX6_product_31 (by decide) ?_
              refine lv_icmp_ne (tgt := 69) hx hb dX6_product_33 (by decide) (fun c33_34 => ?_) (fun c33_34 => ?_)
              · have c33_34 : ¬ ((T pv) = 37) := fun h9 => c33_34 ((nI_eq (a := T pv) (b := 37) (by have h91 := hT pv (by omega); omega) (by have h91 := hT pv (by omega); omega)).mpr h9)
                refine lv_iconst (v := nI 1) hx hb dX6_product_69 (by decide) ?_
                exact hret hP hD hS dX6_product_70 rfl (by obtain ⟨e1, e2, e3⟩ := zLe (f := f1) hz (fun h9 => by have h91 := h9.1; have h92 := zlv_4.mp h9.2; omega); subst e1; subst e2; subst e3; exact ⟨_, _, _, (by omega), fun _ => ⟨rfl, rfl, rfl⟩, (bI_t rfl).symm, rfl⟩)
              · have c33_34 : (T pv) = 37 := (nI_eq (a := T pv) (b := 37) (by have h91 := hT pv (by omega); omega) (by have h91 := hT pv (by omega); omega)).mp c33_34
                refine lv_aload_n hx hb dX6_product_36 rfl (lv_at hl 0 rfl) ?_
                refine zcsE (va_runV (As := []) (rest := []) ⟨hx, hb, hml, hown, hts⟩ (c_X6_look l D cI cJ h m0 m1 m2 m4 m9 m10 m11 m13 m16 m17 m18 m19 i3 tn sp pt S ST L u T pv ((c + ta.length)) 0 (by first | rfl | assumption | omega) (by first | rfl | assumption | omega) (by first | rfl | assumption | omega) (by first | rfl | assumption | omega) (by first | rfl | assumption | omega) (by omega) H.size) (cwV 0 hts gX6_product_X6_look rfl rfl rfl (by decide +kernel) ⟨Nat.le_of_ble_eq_true rfl, Nat.le_of_ble_eq_true rfl⟩) (zpV hK hN hZ hP hD hS hA [0, 1] rfl (by decide) 0 rfl rfl rfl) rfl rfl hl.1 rfl (lv_room (Nat.le_of_ble_eq_true rfl)) dX6_product_37 ⟨Nat.zero_le _, Nat.zero_le _⟩) ?_
                refine zrw (if_pos hpL) ?_
                refine lv_istore_n (lv' := [(1, .int (nI (T pv))), (0, .ref h)]) hx hb dX6_product_40 rfl hl (by decide) rfl (fun ls hl => ?_)
                refine lv_aload_n hx hb dX6_product_41 rfl (lv_at hl 1 rfl) ?_
                refine lv_dup hx hb dX6_product_42 rfl ?_
                refine va_get (ci := 6) (v := .int (nI pv)) (C := RX6) (T := TX6) (N := 20) hx hb hts hin6 hown hK hP 0 rfl rfl 5 (by decide) (hts (.fieldLink RX6 61 "UpAllRoundModel" "at" "I") (List.mem_of_getElem? (i := 1) rfl)) (fun _ h9 => h9) rfl dX6_product_43 ?_
                refine lv_iconst (v := nI 1) hx hb dX6_product_46 (by decide) ?_
                refine lv_iadd hx hb dX6_product_47 ?_
                refine zrw (nI_add _ _) ?_
                refine va_put (ci := 6) (v := .int (nI (pv + 1))) (ty := .int) (C := RX6) (T := TX6) (N := 20) hx hb hts hin6 tyX6 tyX6_ok nmX6 hown hK hP hD hS 0 rfl rfl 5 (by decide) (hts (.fieldLink RX6 61 "UpAllRoundModel" "at" "I") (List.mem_of_getElem? (i := 1) rfl)) (fun _ h9 => h9) rfl (by decide +kernel) rfl rfl (Nat.le_of_ble_eq_true rfl) dX6_product_48 (fun H locs hP hD hS => ?_)
                have hP : va_P D vwCl [(h, .inr (6, [.ref m0, .ref m1, .ref m2, .int i3, .ref m4, .int (nI (pv + 1)), .int (nI 0), .int (nI ((c + ta.length))), .int (nI u), .ref m9, .ref m10, .ref m11, .int (nI tn), .ref m13, .int (nI sp), .int (nI pt), .ref m16, .ref m17, .ref m18, .ref m19])), (m0, .inl (cI, 380, .inl S)), (m9, .inl (cI, 124, .inl (zap2 u ST c ta)))] H := hP
                have hD : va_D AA [(h, .inr (6, [.ref m0, .ref m1, .ref m2, .int i3, .ref m4, .int (nI (pv + 1)), .int (nI 0), .int (nI ((c + ta.length))), .int (nI u), .ref m9, .ref m10, .ref m11, .int (nI tn), .ref m13, .int (nI sp), .int (nI pt), .ref m16, .ref m17, .ref m18, .ref m19])), (m0, .inl (cI, 380, .inl S)), (m9, .inl (cI, 124, .inl (zap2 u ST c ta)))] := hD
                refine lv_aload_n hx hb dX6_product_51 rfl (lv_at hl 1 rfl) ?_
                obtain ⟨b2, q2, t2, hR2⟩ : ∃ (b0 : Bool) (q0 : Nat) (t0 : zTks), zLS T L (zQ T L u 5) 0 (pv + 1) = (b0, q0, t0) := ⟨_, _, _, rfl⟩
                have hg2 := (zLS_gd (T := T) (zQ_gd (T := T) (L := L) (u := u) 5) 0) (pv + 1) (by omega)
                rw [hR2] at hg2
                obtain ⟨hga2, hgb2, hgc2⟩ : (pv + 1) ≤ q2 ∧ q2 ≤ L ∧ (b2 = true → (pv + 1) < q2 ∧ t2.length ≤ q2 - (pv + 1) ∧ zw1 t2) := hg2
                refine zci (wr := []) (va_runV (As := []) (rest := []) ⟨hx, hb, hml, hown, hts⟩ (c_X6_one_0 l D cI cJ h m0 m1 m2 m4 m9 m10 m11 m13 m16 m17 m18 m19 i3 tn sp pt S (zap2 u ST c ta) L u T (pv + 1) ((c + ta.length)) b2 q2 t2 (by first | rfl | assumption | omega) (by first | rfl | assumption | omega) (by first | rfl | assumption | omega) (by first | rfl | assumption | omega) (by first | rfl | assumption | omega) (by omega) (by omega) hR2 H.size) (cwV 0 hts gX6_product_X6_one rfl rfl rfl (by decide +kernel) ⟨Nat.le_of_ble_eq_true rfl, Nat.le_of_ble_eq_true rfl⟩) (zpV hK hN hZ hP hD hS hA [0, 1, 2] rfl (by decide) 0 rfl rfl rfl) rfl rfl hl.1 rfl (lv_room (Nat.le_of_ble_eq_true rfl)) dX6_product_52 ⟨Nat.zero_le _, Nat.zero_le _⟩) hP hD hS hA [0, 1, 2] [] rfl rfl (by decide) (by decide) (fun r_37 w_36 H locs h_35 hP hD hS => ?_)
                obtain ⟨c9_38, o9_39, ST9_40, hq9_41, hx9_42, rfl, rfl⟩ := h_35
                have hP : va_P D vwCl [(h, .inr (6, [.ref m0, .ref m1, .ref m2, .int i3, .ref m4, .int (nI q2), .int (nI o9_39), .int (nI c9_38), .int (nI u), .ref m9, .ref m10, .ref m11, .int (nI tn), .ref m13, .int (nI sp), .int (nI pt), .ref m16, .ref m17, .ref m18, .ref m19])), (m0, .inl (cI, 380, .inl S)), (m9, .inl (cI, 124, .inl ST9_40))] H := hP
                have hD : va_D AA [(h, .inr (6, [.ref m0, .ref m1, .ref m2, .int i3, .ref m4, .int (nI q2), .int (nI o9_39), .int (nI c9_38), .int (nI u), .ref m9, .ref m10, .ref m11, .int (nI tn), .ref m13, .int (nI sp), .int (nI pt), .ref m16, .ref m17, .ref m18, .ref m19])), (m0, .inl (cI, 380, .inl S)), (m9, .inl (cI, 124, .inl ST9_40))] := hD
                refine lv_if_ne (tgt := 60) hx hb dX6_product_55 (by decide) (fun c55_43 => ?_) (fun c55_43 => ?_)
                · have c55_43 := bI_n0.mp c55_43
                  obtain ⟨hgd2, hge2, hgf2⟩ := hgc2 c55_43
                  obtain ⟨he2, hE2, ho2⟩ := hx9_42 c55_43
                  subst he2; subst hE2; subst ho2
                  refine lv_aload_n hx hb dX6_product_60 rfl (lv_at hl 1 rfl) ?_
                  refine lv_iconst (v := nI 3) hx hb dX6_product_61 (by decide) ?_
                  refine lv_iload_n hx hb dX6_product_62 rfl (lv_at hl 0 rfl) ?_
                  refine zcv (wr := [(m0, .inl (cI, 380, .inl S))]) (va_runV (As := [.int (nI 3), .int (nI (T pv))]) (rest := []) ⟨hx, hb, hml, hown, hts⟩ (c_X6_step1 l D cI cJ h m0 m1 m2 m4 m9 m10 m11 m13 m16 m17 m18 m19 i3 tn sp pt u q2 0 ((c + ta.length + t2.length)) (zap2 u (zap2 u ST c ta) (c + ta.length) t2) 3 (nI (T pv)) (by omega) H.size) (cwV 2 hts gX6_product_X6_step1 rfl rfl rfl (by decide +kernel) ⟨Nat.le_of_ble_eq_true rfl, Nat.le_of_ble_eq_true rfl⟩) (zpV hK hN hZ hP hD hS hA [0, 2] rfl (by decide) 0 rfl rfl rfl) rfl rfl hl.1 rfl (lv_room (Nat.le_of_ble_eq_true rfl)) dX6_product_63 ⟨Nat.zero_le _, Nat.zero_le _⟩) hP hD hS hA [0, 2] [1] rfl rfl (by decide) (by decide) (fun w_45 H locs h_44 hP hD hS => ?_)
                  obtain rfl := h_44
                  have hP : va_P D vwCl [(m0, .inl (cI, 380, .inl S)), (h, .inr (6, [.ref m0, .ref m1, .ref m2, .int i3, .ref m4, .int (nI q2), .int (nI 0), .int (nI ((((c + ta.length + t2.length)) + 1))), .int (nI u), .ref m9, .ref m10, .ref m11, .int (nI tn), .ref m13, .int (nI sp), .int (nI pt), .ref m16, .ref m17, .ref m18, .ref m19])), (m9, .inl (cI, 124, .inl ((upd (upd (zap2 u (zap2 u ST c ta) (c + ta.length) t2) (2 * ((c + ta.length + t2.length))) (nI 3)) (2 * ((c + ta.length + t2.length)) + 1) (nI (T pv))))))] H := hP
                  have hD : va_D AA [(m0, .inl (cI, 380, .inl S)), (h, .inr (6, [.ref m0, .ref m1, .ref m2, .int i3, .ref m4, .int (nI q2), .int (nI 0), .int (nI ((((c + ta.length + t2.length)) + 1))), .int (nI u), .ref m9, .ref m10, .ref m11, .int (nI tn), .ref m13, .int (nI sp), .int (nI pt), .ref m16, .ref m17, .ref m18, .ref m19])), (m9, .inl (cI, 124, .inl ((upd (upd (zap2 u (zap2 u ST c ta) (c + ta.length) t2) (2 * ((c + ta.length + t2.length))) (nI 3)) (2 * ((c + ta.length + t2.length)) + 1) (nI (T pv))))))] := hD
                  refine lv_goto (tgt := 9) hx hb dX6_product_66 (by decide) ?_
                  rw [zap23, zlen1 (t := (3, T pv))] at hP hD
                  exact ih_9   f1 q2 ((ta ++ (t2 ++ [(3, T pv)]))) (by omega) (zLt (by decide) hz ⟨by omega, zlv_4.mpr (by omega)⟩ hR2 (by assumption)) (by omega) (by omega) (by rw [← zlen1]; omega) ls (lv_sub hl [1] rfl) H locs (hP.sub [1, 0, 2] rfl) (hD.sub [1, 0, 2] (by decide) rfl) hS
                · have c55_43 := bI_0.mp c55_43
                  refine lv_iconst (v := nI 0) hx hb dX6_product_58 (by decide) ?_
                  exact hret hP hD hS dX6_product_59 rfl (by obtain ⟨e1, e2⟩ := zLf hz ⟨by omega, zlv_4.mpr (by omega)⟩ hR2 (by assumption); subst e1; subst e2; exact ⟨_, _, _, hq9_41, fun h9 => (by cases h9), (bI_f (by decide)).symm, rfl⟩)
        · refine zcsE (va_runV (As := []) (rest := []) ⟨hx, hb, hml, hown, hts⟩ (c_X6_look l D cI cJ h m0 m1 m2 m4 m9 m10 m11 m13 m16 m17 m18 m19 i3 tn sp pt S ST L u T pv ((c + ta.length)) 0 (by first | rfl | assumption | omega) (by first | rfl | assumption | omega) (by first | rfl | assumption | omega) (by first | rfl | assumption | omega) (by first | rfl | assumption | omega) (by omega) H.size) (cwV 0 hts gX6_product_X6_look rfl rfl rfl (by decide +kernel) ⟨Nat.le_of_ble_eq_true rfl, Nat.le_of_ble_eq_true rfl⟩) (zpV hK hN hZ hP hD hS hA [0, 1] rfl (by decide) 0 rfl rfl rfl) rfl rfl hl.1 rfl (lv_room (Nat.le_of_ble_eq_true rfl)) dX6_product_10 ⟨Nat.zero_le _, Nat.zero_le _⟩) ?_
          refine zrw (if_neg hpL) ?_
          refine lv_bipush (v := nI 42) hx hb dX6_product_13 (by decide) ?_
          refine lv_icmp_eq (tgt := 36) hx hb dX6_product_15 (by decide) (fun c15_46 => ?_) (fun c15_46 => ?_)
          · exact absurd c15_46 (by decide)
          · refine lv_aload_n hx hb dX6_product_18 rfl (lv_at hl 0 rfl) ?_
            refine zcsE (va_runV (As := []) (rest := []) ⟨hx, hb, hml, hown, hts⟩ (c_X6_look l D cI cJ h m0 m1 m2 m4 m9 m10 m11 m13 m16 m17 m18 m19 i3 tn sp pt S ST L u T pv ((c + ta.length)) 0 (by first | rfl | assumption | omega) (by first | rfl | assumption | omega) (by first | rfl | assumption | omega) (by first | rfl | assumption | omega) (by first | rfl | assumption | omega) (by omega) H.size) (cwV 0 hts gX6_product_X6_look rfl rfl rfl (by decide +kernel) ⟨Nat.le_of_ble_eq_true rfl, Nat.le_of_ble_eq_true rfl⟩) (zpV hK hN hZ hP hD hS hA [0, 1] rfl (by decide) 0 rfl rfl rfl) rfl rfl hl.1 rfl (lv_room (Nat.le_of_ble_eq_true rfl)) dX6_product_19 ⟨Nat.zero_le _, Nat.zero_le _⟩) ?_
            refine zrw (if_neg hpL) ?_
            refine lv_bipush (v := nI 47) hx hb dX6_product_22 (by decide) ?_
            refine lv_icmp_eq (tgt := 36) hx hb dX6_product_24 (by decide) (fun c24_47 => ?_) (fun c24_47 => ?_)
            · exact absurd c24_47 (by decide)
            · refine lv_aload_n hx hb dX6_product_27 rfl (lv_at hl 0 rfl) ?_
              refine zcsE (va_runV (As := []) (rest := []) ⟨hx, hb, hml, hown, hts⟩ (c_X6_look l D cI cJ h m0 m1 m2 m4 m9 m10 m11 m13 m16 m17 m18 m19 i3 tn sp pt S ST L u T pv ((c + ta.length)) 0 (by first | rfl | assumption | omega) (by first | rfl | assumption | omega) (by first | rfl | assumption | omega) (by first | rfl | assumption | omega) (by first | rfl | assumption | omega) (by omega) H.size) (cwV 0 hts gX6_product_X6_look rfl rfl rfl (by decide +kernel) ⟨Nat.le_of_ble_eq_true rfl, Nat.le_of_ble_eq_true rfl⟩) (zpV hK hN hZ hP hD hS hA [0, 1] rfl (by decide) 0 rfl rfl rfl) rfl rfl hl.1 rfl (lv_room (Nat.le_of_ble_eq_true rfl)) dX6_product_28 ⟨Nat.zero_le _, Nat.zero_le _⟩) ?_
              refine zrw (if_neg hpL) ?_
              refine lv_bipush (v := nI 37) hx hb dX6_product_31 (by decide) ?_
              refine lv_icmp_ne (tgt := 69) hx hb dX6_product_33 (by decide) (fun c33_48 => ?_) (fun c33_48 => ?_)
              · refine lv_iconst (v := nI 1) hx hb dX6_product_69 (by decide) ?_
                exact hret hP hD hS dX6_product_70 rfl (by obtain ⟨e1, e2, e3⟩ := zLe (f := f1) hz (fun h9 => by have h91 := h9.1; have h92 := zlv_4.mp h9.2; omega); subst e1; subst e2; subst e3; exact ⟨_, _, _, (by omega), fun _ => ⟨rfl, rfl, rfl⟩, (bI_t rfl).symm, rfl⟩)
              · exact absurd c33_48 (by decide)
    exact L_9 62  61 q1 t1 (by omega) hz (by omega) (by omega) (by omega) ls (lv_sub hl [0] rfl) _ _ hP hD hS
  · have c4_9 := bI_0.mp c4_9
    refine lv_iconst (v := nI 0) hx hb dX6_product_7 (by decide) ?_
    exact hret hP hD hS dX6_product_8 rfl (by obtain ⟨e1, e2⟩ := zLv_ff hR hR1 (by assumption); subst e1; subst e2; exact ⟨_, _, _, hq9_7, fun h9 => (by cases h9), (bI_f (by decide)).symm, rfl⟩)
set_option maxHeartbeats 4000000 in
set_option maxRecDepth 100000 in
theorem c_X6_sum_0 (l : Launch) (D : va_G) (cI cJ : ClassId) (h : Nat) (m0 : Nat) (m1 : Nat) (m2 : Nat) (m4 : Nat) (m9 : Nat) (m10 : Nat) (m11 : Nat) (m13 : Nat) (m16 : Nat) (m17 : Nat) (m18 : Nat) (m19 : Nat) (i3 : Int32) (tn : Nat) (sp : Nat) (pt : Nat) (S : Nat → Int32) (ST : Nat → Int32) (L : Nat) (u : Nat) (T : Nat → Nat) (p : Nat) (c : Nat) (b : Bool) (q : Nat) (tl : zTks) (hL : L ≤ 60) (hu1 : u ≤ 1) (hT : ∀ i, i < L → T i < 256) (htb : ∀ i, i < L → S (296 + i) = nI (T i)) (hS4 : S 4 = nI L) (hp : p ≤ L) (hcp : c ≤ p) (hR : zLS T L (zQ T L u 5) 2 p = (b, q, tl)) : zMi l yX6_sum wsX6_sum ({ frames := 33, cells := 0, slots := 0, locals := 696 } : Room) D [(cI, .int), (cJ, .array .int)] [.ref h] [(h, .inr (6, [.ref m0, .ref m1, .ref m2, .int i3, .ref m4, .int (nI p), .int (nI 0), .int (nI c), .int (nI u), .ref m9, .ref m10, .ref m11, .int (nI tn), .ref m13, .int (nI sp), .int (nI pt), .ref m16, .ref m17, .ref m18, .ref m19])), (m0, .inl (cI, 380, .inl S)), (m9, .inl (cI, 124, .inl ST))] (fun r w => ∃ (c9 o9 : Nat) (ST9 : Nat → Int32), c9 ≤ q ∧ (b = true → c9 = c + tl.length ∧ ST9 = zap2 u ST c tl ∧ o9 = 0) ∧ r = bI (b = true) ∧ w = [(h, .inr (6, [.ref m0, .ref m1, .ref m2, .int i3, .ref m4, .int (nI q), .int (nI o9), .int (nI c9), .int (nI u), .ref m9, .ref m10, .ref m11, .int (nI tn), .ref m13, .int (nI sp), .int (nI pt), .ref m16, .ref m17, .ref m18, .ref m19])), (m0, .inl (cI, 380, .inl S)), (m9, .inl (cI, 124, .inl ST9))]) := by
  refine zMi.start (cc := cX6_sum) (maxL := 2) (rt := .boolean) (by first | decide | decide +kernel) rfl (Nat.le_of_ble_eq_true rfl) ?_
  intro pg ev s mt args below meth cd ls AA QQ ⟨hx, hb, hml, hr, hlocks, hown, hts, hK, hN, hZ, hP, hD, hA, hS, hl⟩ hret
  have hown : s.vm.findClass RX6 = some mt.cls := hown
  have hl : lv_has ls 2 [(0, .ref h)] := hl
  have hin6 : ∀ w ∈ wsX60, w ∈ wsX6_sum := fun w h => List.mem_cons_of_mem _ (List.mem_append_right _ (h))
  have hR : zLv T L 3 (zLS T L (zQ T L u 5) 1) p = (b, q, tl) := hR
  obtain ⟨b1, q1, t1, hR1⟩ : ∃ (b0 : Bool) (q0 : Nat) (t0 : zTks), zLS T L (zQ T L u 5) 1 p = (b0, q0, t0) := ⟨_, _, _, rfl⟩
  have hg1 := (zLS_gd (T := T) (zQ_gd (T := T) (L := L) (u := u) 5) 1) p (by omega)
  rw [hR1] at hg1
  obtain ⟨hga1, hgb1, hgc1⟩ : p ≤ q1 ∧ q1 ≤ L ∧ (b1 = true → p < q1 ∧ t1.length ≤ q1 - p ∧ zw1 t1) := hg1
  refine lv_aload_n hx hb dX6_sum_0 rfl (lv_at hl 0 rfl) ?_
  refine zci (wr := []) (va_runV (As := []) (rest := []) ⟨hx, hb, hml, hown, hts⟩ (c_X6_product_0 l D cI cJ h m0 m1 m2 m4 m9 m10 m11 m13 m16 m17 m18 m19 i3 tn sp pt S ST L u T p c b1 q1 t1 (by first | rfl | assumption | omega) (by first | rfl | assumption | omega) (by first | rfl | assumption | omega) (by first | rfl | assumption | omega) (by first | rfl | assumption | omega) (by first | rfl | assumption | omega) (by first | rfl | assumption | omega) hR1 s.heap.size) (cwV 0 hts gX6_sum_X6_product rfl rfl rfl (by decide +kernel) ⟨Nat.le_of_ble_eq_true rfl, Nat.le_of_ble_eq_true rfl⟩) (zpV hK hN hZ hP hD hS hA [0, 1, 2] rfl (by decide) 0 rfl rfl rfl) rfl rfl hl.1 rfl (lv_room (Nat.le_of_ble_eq_true rfl)) dX6_sum_1 ⟨Nat.zero_le _, Nat.zero_le _⟩) hP hD hS hA [0, 1, 2] [] rfl rfl (by decide) (by decide) (fun r_3 w_2 H locs h_1 hP hD hS => ?_)
  obtain ⟨c9_4, o9_5, ST9_6, hq9_7, hx9_8, rfl, rfl⟩ := h_1
  have hP : va_P D vwCl [(h, .inr (6, [.ref m0, .ref m1, .ref m2, .int i3, .ref m4, .int (nI q1), .int (nI o9_5), .int (nI c9_4), .int (nI u), .ref m9, .ref m10, .ref m11, .int (nI tn), .ref m13, .int (nI sp), .int (nI pt), .ref m16, .ref m17, .ref m18, .ref m19])), (m0, .inl (cI, 380, .inl S)), (m9, .inl (cI, 124, .inl ST9_6))] H := hP
  have hD : va_D AA [(h, .inr (6, [.ref m0, .ref m1, .ref m2, .int i3, .ref m4, .int (nI q1), .int (nI o9_5), .int (nI c9_4), .int (nI u), .ref m9, .ref m10, .ref m11, .int (nI tn), .ref m13, .int (nI sp), .int (nI pt), .ref m16, .ref m17, .ref m18, .ref m19])), (m0, .inl (cI, 380, .inl S)), (m9, .inl (cI, 124, .inl ST9_6))] := hD
  refine lv_if_ne (tgt := 9) hx hb dX6_sum_4 (by decide) (fun c4_9 => ?_) (fun c4_9 => ?_)
  · have c4_9 := bI_n0.mp c4_9
    obtain ⟨hgd1, hge1, hgf1⟩ := hgc1 c4_9
    obtain ⟨he1, hE1, ho1⟩ := hx9_8 c4_9
    subst he1; subst hE1; subst ho1
    have hz := zLv_tt hR hR1 c4_9
    have L_9 : ∀ (fu : Nat) (f : Nat) (pv : Nat) (ta : zTks) (hn : f < fu) (hz : zct ta (zLp T L 3 (zLS T L (zQ T L u 5) 1) f pv) = (b, q, tl)) (hf : L - pv < f) (hpv : pv ≤ L) (hca : c + ta.length ≤ pv), ∀ (ls : Array Slot), lv_has ls 2 [(0, .ref h)] → ∀ (H : Heap) (locs : List Loc), va_P D vwCl [(h, .inr (6, [.ref m0, .ref m1, .ref m2, .int i3, .ref m4, .int (nI pv), .int (nI 0), .int (nI ((c + ta.length))), .int (nI u), .ref m9, .ref m10, .ref m11, .int (nI tn), .ref m13, .int (nI sp), .int (nI pt), .ref m16, .ref m17, .ref m18, .ref m19])), (m0, .inl (cI, 380, .inl S)), (m9, .inl (cI, 124, .inl (zap2 u ST c ta)))] H → va_D AA [(h, .inr (6, [.ref m0, .ref m1, .ref m2, .int i3, .ref m4, .int (nI pv), .int (nI 0), .int (nI ((c + ta.length))), .int (nI u), .ref m9, .ref m10, .ref m11, .int (nI tn), .ref m13, .int (nI sp), .int (nI pt), .ref m16, .ref m17, .ref m18, .ref m19])), (m0, .inl (cI, 380, .inl S)), (m9, .inl (cI, 124, .inl (zap2 u ST c ta)))] → va_S AA s.heap H locs → W pg l ev ({ frames := 33, cells := 0, slots := 0, locals := 696 } : Room) s mt args below meth cd H locs 0 0 QQ (F0 mt 9 ls []) := by
      intro fu
      induction fu with
      | zero =>
        intro  f pv ta  hn
        exact absurd hn (by omega)
      | succ fu ih_9 =>
        intro  f pv ta  hn hz hf hpv hca ls hl H locs hP hD hS
        obtain ⟨f1, rfl⟩ : ∃ f1, f = f1 + 1 := ⟨f - 1, by omega⟩
        refine lv_aload_n hx hb dX6_sum_9 rfl (lv_at hl 0 rfl) ?_
        by_cases hpL : pv < L
        · refine zcsE (va_runV (As := []) (rest := []) ⟨hx, hb, hml, hown, hts⟩ (c_X6_look l D cI cJ h m0 m1 m2 m4 m9 m10 m11 m13 m16 m17 m18 m19 i3 tn sp pt S ST L u T pv ((c + ta.length)) 0 (by first | rfl | assumption | omega) (by first | rfl | assumption | omega) (by first | rfl | assumption | omega) (by first | rfl | assumption | omega) (by first | rfl | assumption | omega) (by omega) H.size) (cwV 0 hts gX6_sum_X6_look rfl rfl rfl (by decide +kernel) ⟨Nat.le_of_ble_eq_true rfl, Nat.le_of_ble_eq_true rfl⟩) (zpV hK hN hZ hP hD hS hA [0, 1] rfl (by decide) 0 rfl rfl rfl) rfl rfl hl.1 rfl (lv_room (Nat.le_of_ble_eq_true rfl)) dX6_sum_10 ⟨Nat.zero_le _, Nat.zero_le _⟩) ?_
          refine zrw (if_pos hpL) ?_
          refine lv_bipush (v := nI 43) hx hb dX6_sum_13 (by decide) ?_
          refine lv_icmp_eq (tgt := 27) hx hb dX6_sum_15 (by decide) (fun c15_10 => ?_) (fun c15_10 => ?_)
          · have c15_10 : (T pv) = 43 := (nI_eq (a := T pv) (b := 43) (by have h91 := hT pv (by omega); omega) (by have h91 := hT pv (by omega); omega)).mp c15_10
            refine lv_aload_n hx hb dX6_sum_27 rfl (lv_at hl 0 rfl) ?_
            refine zcsE (va_runV (As := []) (rest := []) ⟨hx, hb, hml, hown, hts⟩ (c_X6_look l D cI cJ h m0 m1 m2 m4 m9 m10 m11 m13 m16 m17 m18 m19 i3 tn sp pt S ST L u T pv ((c + ta.length)) 0 (by first | rfl | assumption | omega) (by first | rfl | assumption | omega) (by first | rfl | assumption | omega) (by first | rfl | assumption | omega) (by first | rfl | assumption | omega) (by omega) H.size) (cwV 0 hts gX6_sum_X6_look rfl rfl rfl (by decide +kernel) ⟨Nat.le_of_ble_eq_true rfl, Nat.le_of_ble_eq_true rfl⟩) (zpV hK hN hZ hP hD hS hA [0, 1] rfl (by decide) 0 rfl rfl rfl) rfl rfl hl.1 rfl (lv_room (Nat.le_of_ble_eq_true rfl)) dX6_sum_28 ⟨Nat.zero_le _, Nat.zero_le _⟩) ?_
            refine zrw (if_pos hpL) ?_
            refine lv_istore_n (lv' := [(1, .int (nI (T pv))), (0, .ref h)]) hx hb dX6_sum_31 rfl hl (by decide) rfl (fun ls hl => ?_)
            refine lv_aload_n hx hb dX6_sum_32 rfl (lv_at hl 1 rfl) ?_
            refine lv_dup hx hb dX6_sum_33 rfl ?_
            refine va_get (ci := 6) (v := .int (nI pv)) (C := RX6) (T := TX6) (N := 20) hx hb hts hin6 hown hK hP 0 rfl rfl 5 (by decide) (hts (.fieldLink RX6 61 "UpAllRoundModel" "at" "I") (List.mem_of_getElem? (i := 1) rfl)) (fun _ h9 => h9) rfl dX6_sum_34 ?_
            refine lv_iconst (v := nI 1) hx hb dX6_sum_37 (by decide) ?_
            refine lv_iadd hx hb dX6_sum_38 ?_
            refine zrw (nI_add _ _) ?_
            refine va_put (ci := 6) (v := .int (nI (pv + 1))) (ty := .int) (C := RX6) (T := TX6) (N := 20) hx hb hts hin6 tyX6 tyX6_ok nmX6 hown hK hP hD hS 0 rfl rfl 5 (by decide) (hts (.fieldLink RX6 61 "UpAllRoundModel" "at" "I") (List.mem_of_getElem? (i := 1) rfl)) (fun _ h9 => h9) rfl (by decide +kernel) rfl rfl (Nat.le_of_ble_eq_true rfl) dX6_sum_39 (fun H locs hP hD hS => ?_)
            have hP : va_P D vwCl [(h, .inr (6, [.ref m0, .ref m1, .ref m2, .int i3, .ref m4, .int (nI (pv + 1)), .int (nI 0), .int (nI ((c + ta.length))), .int (nI u), .ref m9, .ref m10, .ref m11, .int (nI tn), .ref m13, .int (nI sp), .int (nI pt), .ref m16, .ref m17, .ref m18, .ref m19])), (m0, .inl (cI, 380, .inl S)), (m9, .inl (cI, 124, .inl (zap2 u ST c ta)))] H := hP
            have hD : va_D AA [(h, .inr (6, [.ref m0, .ref m1, .ref m2, .int i3, .ref m4, .int (nI (pv + 1)), .int (nI 0), .int (nI ((c + ta.length))), .int (nI u), .ref m9, .ref m10, .ref m11, .int (nI tn), .ref m13, .int (nI sp), .int (nI pt), .ref m16, .ref m17, .ref m18, .ref m19])), (m0, .inl (cI, 380, .inl S)), (m9, .inl (cI, 124, .inl (zap2 u ST c ta)))] := hD
            refine lv_aload_n hx hb dX6_sum_42 rfl (lv_at hl 1 rfl) ?_
            obtain ⟨b2, q2, t2, hR2⟩ : ∃ (b0 : Bool) (q0 : Nat) (t0 : zTks), zLS T L (zQ T L u 5) 1 (pv + 1) = (b0, q0, t0) := ⟨_, _, _, rfl⟩
            have hg2 := (zLS_gd (T := T) (zQ_gd (T := T) (L := L) (u := u) 5) 1) (pv + 1) (by omega)
            rw [hR2] at hg2
            obtain ⟨hga2, hgb2, hgc2⟩ : (pv + 1) ≤ q2 ∧ q2 ≤ L ∧ (b2 = true → (pv + 1) < q2 ∧ t2.length ≤ q2 - (pv + 1) ∧ zw1 t2) := hg2
            refine zci (wr := []) (va_runV (As := []) (rest := []) ⟨hx, hb, hml, hown, hts⟩ (c_X6_product_0 l D cI cJ h m0 m1 m2 m4 m9 m10 m11 m13 m16 m17 m18 m19 i3 tn sp pt S (zap2 u ST c ta) L u T (pv + 1) ((c + ta.length)) b2 q2 t2 (by first | rfl | assumption | omega) (by first | rfl | assumption | omega) (by first | rfl | assumption | omega) (by first | rfl | assumption | omega) (by first | rfl | assumption | omega) (by omega) (by omega) hR2 H.size) (cwV 0 hts gX6_sum_X6_product rfl rfl rfl (by decide +kernel) ⟨Nat.le_of_ble_eq_true rfl, Nat.le_of_ble_eq_true rfl⟩) (zpV hK hN hZ hP hD hS hA [0, 1, 2] rfl (by decide) 0 rfl rfl rfl) rfl rfl hl.1 rfl (lv_room (Nat.le_of_ble_eq_true rfl)) dX6_sum_43 ⟨Nat.zero_le _, Nat.zero_le _⟩) hP hD hS hA [0, 1, 2] [] rfl rfl (by decide) (by decide) (fun r_13 w_12 H locs h_11 hP hD hS => ?_)
            obtain ⟨c9_14, o9_15, ST9_16, hq9_17, hx9_18, rfl, rfl⟩ := h_11
            have hP : va_P D vwCl [(h, .inr (6, [.ref m0, .ref m1, .ref m2, .int i3, .ref m4, .int (nI q2), .int (nI o9_15), .int (nI c9_14), .int (nI u), .ref m9, .ref m10, .ref m11, .int (nI tn), .ref m13, .int (nI sp), .int (nI pt), .ref m16, .ref m17, .ref m18, .ref m19])), (m0, .inl (cI, 380, .inl S)), (m9, .inl (cI, 124, .inl ST9_16))] H := hP
            have hD : va_D AA [(h, .inr (6, [.ref m0, .ref m1, .ref m2, .int i3, .ref m4, .int (nI q2), .int (nI o9_15), .int (nI c9_14), .int (nI u), .ref m9, .ref m10, .ref m11, .int (nI tn), .ref m13, .int (nI sp), .int (nI pt), .ref m16, .ref m17, .ref m18, .ref m19])), (m0, .inl (cI, 380, .inl S)), (m9, .inl (cI, 124, .inl ST9_16))] := hD
            refine lv_if_ne (tgt := 51) hx hb dX6_sum_46 (by decide) (fun c46_19 => ?_) (fun c46_19 => ?_)
            · have c46_19 := bI_n0.mp c46_19
              obtain ⟨hgd2, hge2, hgf2⟩ := hgc2 c46_19
              obtain ⟨he2, hE2, ho2⟩ := hx9_18 c46_19
              subst he2; subst hE2; subst ho2
              refine lv_aload_n hx hb dX6_sum_51 rfl (lv_at hl 1 rfl) ?_
              refine lv_iconst (v := nI 3) hx hb dX6_sum_52 (by decide) ?_
              refine lv_iload_n hx hb dX6_sum_53 rfl (lv_at hl 0 rfl) ?_
              refine zcv (wr := [(m0, .inl (cI, 380, .inl S))]) (va_runV (As := [.int (nI 3), .int (nI (T pv))]) (rest := []) ⟨hx, hb, hml, hown, hts⟩ (c_X6_step1 l D cI cJ h m0 m1 m2 m4 m9 m10 m11 m13 m16 m17 m18 m19 i3 tn sp pt u q2 0 ((c + ta.length + t2.length)) (zap2 u (zap2 u ST c ta) (c + ta.length) t2) 3 (nI (T pv)) (by omega) H.size) (cwV 2 hts gX6_sum_X6_step1 rfl rfl rfl (by decide +kernel) ⟨Nat.le_of_ble_eq_true rfl, Nat.le_of_ble_eq_true rfl⟩) (zpV hK hN hZ hP hD hS hA [0, 2] rfl (by decide) 0 rfl rfl rfl) rfl rfl hl.1 rfl (lv_room (Nat.le_of_ble_eq_true rfl)) dX6_sum_54 ⟨Nat.zero_le _, Nat.zero_le _⟩) hP hD hS hA [0, 2] [1] rfl rfl (by decide) (by decide) (fun w_21 H locs h_20 hP hD hS => ?_)
              obtain rfl := h_20
              have hP : va_P D vwCl [(m0, .inl (cI, 380, .inl S)), (h, .inr (6, [.ref m0, .ref m1, .ref m2, .int i3, .ref m4, .int (nI q2), .int (nI 0), .int (nI ((((c + ta.length + t2.length)) + 1))), .int (nI u), .ref m9, .ref m10, .ref m11, .int (nI tn), .ref m13, .int (nI sp), .int (nI pt), .ref m16, .ref m17, .ref m18, .ref m19])), (m9, .inl (cI, 124, .inl ((upd (upd (zap2 u (zap2 u ST c ta) (c + ta.length) t2) (2 * ((c + ta.length + t2.length))) (nI 3)) (2 * ((c + ta.length + t2.length)) + 1) (nI (T pv))))))] H := hP
              have hD : va_D AA [(m0, .inl (cI, 380, .inl S)), (h, .inr (6, [.ref m0, .ref m1, .ref m2, .int i3, .ref m4, .int (nI q2), .int (nI 0), .int (nI ((((c + ta.length + t2.length)) + 1))), .int (nI u), .ref m9, .ref m10, .ref m11, .int (nI tn), .ref m13, .int (nI sp), .int (nI pt), .ref m16, .ref m17, .ref m18, .ref m19])), (m9, .inl (cI, 124, .inl ((upd (upd (zap2 u (zap2 u ST c ta) (c + ta.length) t2) (2 * ((c + ta.length + t2.length))) (nI 3)) (2 * ((c + ta.length + t2.length)) + 1) (nI (T pv))))))] := hD
              refine lv_goto (tgt := 9) hx hb dX6_sum_57 (by decide) ?_
              rw [zap23, zlen1 (t := (3, T pv))] at hP hD
              exact ih_9   f1 q2 ((ta ++ (t2 ++ [(3, T pv)]))) (by omega) (zLt (by decide) hz ⟨by omega, zlv_3.mpr (by omega)⟩ hR2 (by assumption)) (by omega) (by omega) (by rw [← zlen1]; omega) ls (lv_sub hl [1] rfl) H locs (hP.sub [1, 0, 2] rfl) (hD.sub [1, 0, 2] (by decide) rfl) hS
            · have c46_19 := bI_0.mp c46_19
              refine lv_iconst (v := nI 0) hx hb dX6_sum_49 (by decide) ?_
              exact hret hP hD hS dX6_sum_50 rfl (by obtain ⟨e1, e2⟩ := zLf hz ⟨by omega, zlv_3.mpr (by omega)⟩ hR2 (by assumption); subst e1; subst e2; exact ⟨_, _, _, hq9_17, fun h9 => (by cases h9), (bI_f (by decide)).symm, rfl⟩)
          · have c15_10 : ¬ ((T pv) = 43) := fun h9 => c15_10 ((nI_eq (a := T pv) (b := 43) (by have h91 := hT pv (by omega); omega) (by have h91 := hT pv (by omega); omega)).mpr h9)
            refine lv_aload_n hx hb dX6_sum_18 rfl (lv_at hl 0 rfl) ?_
            refine zcsE (va_runV (As := []) (rest := []) ⟨hx, hb, hml, hown, hts⟩ (c_X6_look l D cI cJ h m0 m1 m2 m4 m9 m10 m11 m13 m16 m17 m18 m19 i3 tn sp pt S ST L u T pv ((c + ta.length)) 0 (by first | rfl | assumption | omega) (by first | rfl | assumption | omega) (by first | rfl | assumption | omega) (by first | rfl | assumption | omega) (by first | rfl | assumption | omega) (by omega) H.size) (cwV 0 hts gX6_sum_X6_look rfl rfl rfl (by decide +kernel) ⟨Nat.le_of_ble_eq_true rfl, Nat.le_of_ble_eq_true rfl⟩) (zpV hK hN hZ hP hD hS hA [0, 1] rfl (by decide) 0 rfl rfl rfl) rfl rfl hl.1 rfl (lv_room (Nat.le_of_ble_eq_true rfl)) dX6_sum_19 ⟨Nat.zero_le _, Nat.zero_le _⟩) ?_
            refine zrw (if_pos hpL) ?_
            refine lv_bipush (v := nI 45) hx hb dX6_sum_22 (by decide) ?_
            refine lv_icmp_ne (tgt := 60) hx hb dX6_sum_24 (by decide) (fun c24_22 => ?_) (fun c24_22 => ?_)
            · have c24_22 : ¬ ((T pv) = 45) := fun h9 => c24_22 ((nI_eq (a := T pv) (b := 45) (by have h91 := hT pv (by omega); omega) (by have h91 := hT pv (by omega); omega)).mpr h9)
              refine lv_iconst (v := nI 1) hx hb dX6_sum_60 (by decide) ?_
              exact hret hP hD hS dX6_sum_61 rfl (by obtain ⟨e1, e2, e3⟩ := zLe (f := f1) hz (fun h9 => by have h91 := h9.1; have h92 := zlv_3.mp h9.2; omega); subst e1; subst e2; subst e3; exact ⟨_, _, _, (by omega), fun _ => ⟨rfl, rfl, rfl⟩, (bI_t rfl).symm, rfl⟩)
            · have c24_22 : (T pv) = 45 := (nI_eq (a := T pv) (b := 45) (by have h91 := hT pv (by omega); omega) (by have h91 := hT pv (by omega); omega)).mp c24_22
              refine lv_aload_n hx hb dX6_sum_27 rfl (lv_at hl 0 rfl) ?_
              refine zcsE (va_runV (As := []) (rest := []) ⟨hx, hb, hml, hown, hts⟩ (c_X6_look l D cI cJ h m0 m1 m2 m4 m9 m10 m11 m13 m16 m17 m18 m19 i3 tn sp pt S ST L u T pv ((c + ta.length)) 0 (by first | rfl | assumption | omega) (by first | rfl | assumption | omega) (by first | rfl | assumption | omega) (by first | rfl | assumption | omega) (by first | rfl | assumption | omega) (by omega) H.size) (cwV 0 hts gX6_sum_X6_look rfl rfl rfl (by decide +kernel) ⟨Nat.le_of_ble_eq_true rfl, Nat.le_of_ble_eq_true rfl⟩) (zpV hK hN hZ hP hD hS hA [0, 1] rfl (by decide) 0 rfl rfl rfl) rfl rfl hl.1 rfl (lv_room (Nat.le_of_ble_eq_true rfl)) dX6_sum_28 ⟨Nat.zero_le _, Nat.zero_le _⟩) ?_
              refine zrw (if_pos hpL) ?_
              refine lv_istore_n (lv' := [(1, .int (nI (T pv))), (0, .ref h)]) hx hb dX6_sum_31 rfl hl (by decide) rfl (fun ls hl => ?_)
              refine lv_aload_n hx hb dX6_sum_32 rfl (lv_at hl 1 rfl) ?_
              refine lv_dup hx hb dX6_sum_33 rfl ?_
              refine va_get (ci := 6) (v := .int (nI pv)) (C := RX6) (T := TX6) (N := 20) hx hb hts hin6 hown hK hP 0 rfl rfl 5 (by decide) (hts (.fieldLink RX6 61 "UpAllRoundModel" "at" "I") (List.mem_of_getElem? (i := 1) rfl)) (fun _ h9 => h9) rfl dX6_sum_34 ?_
              refine lv_iconst (v := nI 1) hx hb dX6_sum_37 (by decide) ?_
              refine lv_iadd hx hb dX6_sum_38 ?_
              refine zrw (nI_add _ _) ?_
              refine va_put (ci := 6) (v := .int (nI (pv + 1))) (ty := .int) (C := RX6) (T := TX6) (N := 20) hx hb hts hin6 tyX6 tyX6_ok nmX6 hown hK hP hD hS 0 rfl rfl 5 (by decide) (hts (.fieldLink RX6 61 "UpAllRoundModel" "at" "I") (List.mem_of_getElem? (i := 1) rfl)) (fun _ h9 => h9) rfl (by decide +kernel) rfl rfl (Nat.le_of_ble_eq_true rfl) dX6_sum_39 (fun H locs hP hD hS => ?_)
              have hP : va_P D vwCl [(h, .inr (6, [.ref m0, .ref m1, .ref m2, .int i3, .ref m4, .int (nI (pv + 1)), .int (nI 0), .int (nI ((c + ta.length))), .int (nI u), .ref m9, .ref m10, .ref m11, .int (nI tn), .ref m13, .int (nI sp), .int (nI pt), .ref m16, .ref m17, .ref m18, .ref m19])), (m0, .inl (cI, 380, .inl S)), (m9, .inl (cI, 124, .inl (zap2 u ST c ta)))] H := hP
              have hD : va_D AA [(h, .inr (6, [.ref m0, .ref m1, .ref m2, .int i3, .ref m4, .int (nI (pv + 1)), .int (nI 0), .int (nI ((c + ta.length))), .int (nI u), .ref m9, .ref m10, .ref m11, .int (nI tn), .ref m13, .int (nI sp), .int (nI pt), .ref m16, .ref m17, .ref m18, .ref m19])), (m0, .inl (cI, 380, .inl S)), (m9, .inl (cI, 124, .inl (zap2 u ST c ta)))] := hD
              refine lv_aload_n hx hb dX6_sum_42 rfl (lv_at hl 1 rfl) ?_
              obtain ⟨b2, q2, t2, hR2⟩ : ∃ (b0 : Bool) (q0 : Nat) (t0 : zTks), zLS T L (zQ T L u 5) 1 (pv + 1) = (b0, q0, t0) := ⟨_, _, _, rfl⟩
              have hg2 := (zLS_gd (T := T) (zQ_gd (T := T) (L := L) (u := u) 5) 1) (pv + 1) (by omega)
              rw [hR2] at hg2
              obtain ⟨hga2, hgb2, hgc2⟩ : (pv + 1) ≤ q2 ∧ q2 ≤ L ∧ (b2 = true → (pv + 1) < q2 ∧ t2.length ≤ q2 - (pv + 1) ∧ zw1 t2) := hg2
              refine zci (wr := []) (va_runV (As := []) (rest := []) ⟨hx, hb, hml, hown, hts⟩ (c_X6_product_0 l D cI cJ h m0 m1 m2 m4 m9 m10 m11 m13 m16 m17 m18 m19 i3 tn sp pt S (zap2 u ST c ta) L u T (pv + 1) ((c + ta.length)) b2 q2 t2 (by first | rfl | assumption | omega) (by first | rfl | assumption | omega) (by first | rfl | assumption | omega) (by first | rfl | assumption | omega) (by first | rfl | assumption | omega) (by omega) (by omega) hR2 H.size) (cwV 0 hts gX6_sum_X6_product rfl rfl rfl (by decide +kernel) ⟨Nat.le_of_ble_eq_true rfl, Nat.le_of_ble_eq_true rfl⟩) (zpV hK hN hZ hP hD hS hA [0, 1, 2] rfl (by decide) 0 rfl rfl rfl) rfl rfl hl.1 rfl (lv_room (Nat.le_of_ble_eq_true rfl)) dX6_sum_43 ⟨Nat.zero_le _, Nat.zero_le _⟩) hP hD hS hA [0, 1, 2] [] rfl rfl (by decide) (by decide) (fun r_25 w_24 H locs h_23 hP hD hS => ?_)
              obtain ⟨c9_26, o9_27, ST9_28, hq9_29, hx9_30, rfl, rfl⟩ := h_23
              have hP : va_P D vwCl [(h, .inr (6, [.ref m0, .ref m1, .ref m2, .int i3, .ref m4, .int (nI q2), .int (nI o9_27), .int (nI c9_26), .int (nI u), .ref m9, .ref m10, .ref m11, .int (nI tn), .ref m13, .int (nI sp), .int (nI pt), .ref m16, .ref m17, .ref m18, .ref m19])), (m0, .inl (cI, 380, .inl S)), (m9, .inl (cI, 124, .inl ST9_28))] H := hP
              have hD : va_D AA [(h, .inr (6, [.ref m0, .ref m1, .ref m2, .int i3, .ref m4, .int (nI q2), .int (nI o9_27), .int (nI c9_26), .int (nI u), .ref m9, .ref m10, .ref m11, .int (nI tn), .ref m13, .int (nI sp), .int (nI pt), .ref m16, .ref m17, .ref m18, .ref m19])), (m0, .inl (cI, 380, .inl S)), (m9, .inl (cI, 124, .inl ST9_28))] := hD
              refine lv_if_ne (tgt := 51) hx hb dX6_sum_46 (by decide) (fun c46_31 => ?_) (fun c46_31 => ?_)
              · have c46_31 := bI_n0.mp c46_31
                obtain ⟨hgd2, hge2, hgf2⟩ := hgc2 c46_31
                obtain ⟨he2, hE2, ho2⟩ := hx9_30 c46_31
                subst he2; subst hE2; subst ho2
                refine lv_aload_n hx hb dX6_sum_51 rfl (lv_at hl 1 rfl) ?_
                refine lv_iconst (v := nI 3) hx hb dX6_sum_52 (by decide) ?_
                refine lv_iload_n hx hb dX6_sum_53 rfl (lv_at hl 0 rfl) ?_
                refine zcv (wr := [(m0, .inl (cI, 380, .inl S))]) (va_runV (As := [.int (nI 3), .int (nI (T pv))]) (rest := []) ⟨hx, hb, hml, hown, hts⟩ (c_X6_step1 l D cI cJ h m0 m1 m2 m4 m9 m10 m11 m13 m16 m17 m18 m19 i3 tn sp pt u q2 0 ((c + ta.length + t2.length)) (zap2 u (zap2 u ST c ta) (c + ta.length) t2) 3 (nI (T pv)) (by omega) H.size) (cwV 2 hts gX6_sum_X6_step1 rfl rfl rfl (by decide +kernel) ⟨Nat.le_of_ble_eq_true rfl, Nat.le_of_ble_eq_true rfl⟩) (zpV hK hN hZ hP hD hS hA [0, 2] rfl (by decide) 0 rfl rfl rfl) rfl rfl hl.1 rfl (lv_room (Nat.le_of_ble_eq_true rfl)) dX6_sum_54 ⟨Nat.zero_le _, Nat.zero_le _⟩) hP hD hS hA [0, 2] [1] rfl rfl (by decide) (by decide) (fun w_33 H locs h_32 hP hD hS => ?_)
                obtain rfl := h_32
                have hP : va_P D vwCl [(m0, .inl (cI, 380, .inl S)), (h, .inr (6, [.ref m0, .ref m1, .ref m2, .int i3, .ref m4, .int (nI q2), .int (nI 0), .int (nI ((((c + ta.length + t2.length)) + 1))), .int (nI u), .ref m9, .ref m10, .ref m11, .int (nI tn), .ref m13, .int (nI sp), .int (nI pt), .ref m16, .ref m17, .ref m18, .ref m19])), (m9, .inl (cI, 124, .inl ((upd (upd (zap2 u (zap2 u ST c ta) (c + ta.length) t2) (2 * ((c + ta.length + t2.length))) (nI 3)) (2 * ((c + ta.length + t2.length)) + 1) (nI (T pv))))))] H := hP
                have hD : va_D AA [(m0, .inl (cI, 380, .inl S)), (h, .inr (6, [.ref m0, .ref m1, .ref m2, .int i3, .ref m4, .int (nI q2), .int (nI 0), .int (nI ((((c + ta.length + t2.length)) + 1))), .int (nI u), .ref m9, .ref m10, .ref m11, .int (nI tn), .ref m13, .int (nI sp), .int (nI pt), .ref m16, .ref m17, .ref m18, .ref m19])), (m9, .inl (cI, 124, .inl ((upd (upd (zap2 u (zap2 u ST c ta) (c + ta.length) t2) (2 * ((c + ta.length + t2.length))) (nI 3)) (2 * ((c + ta.length + t2.length)) + 1) (nI (T pv))))))] := hD
                refine lv_goto (tgt := 9) hx hb dX6_sum_57 (by decide) ?_
                rw [zap23, zlen1 (t := (3, T pv))] at hP hD
                exact ih_9   f1 q2 ((ta ++ (t2 ++ [(3, T pv)]))) (by omega) (zLt (by decide) hz ⟨by omega, zlv_3.mpr (by omega)⟩ hR2 (by assumption)) (by omega) (by omega) (by rw [← zlen1]; omega) ls (lv_sub hl [1] rfl) H locs (hP.sub [1, 0, 2] rfl) (hD.sub [1, 0, 2] (by decide) rfl) hS
              · have c46_31 := bI_0.mp c46_31
                refine lv_iconst (v := nI 0) hx hb dX6_sum_49 (by decide) ?_
                exact hret hP hD hS dX6_sum_50 rfl (by obtain ⟨e1, e2⟩ := zLf hz ⟨by omega, zlv_3.mpr (by omega)⟩ hR2 (by assumption); subst e1; subst e2; exact ⟨_, _, _, hq9_29, fun h9 => (by cases h9), (bI_f (by decide)).symm, rfl⟩)
        · refine zcsE (va_runV (As := []) (rest := []) ⟨hx, hb, hml, hown, hts⟩ (c_X6_look l D cI cJ h m0 m1 m2 m4 m9 m10 m11 m13 m16 m17 m18 m19 i3 tn sp pt S ST L u T pv ((c + ta.length)) 0 (by first | rfl | assumption | omega) (by first | rfl | assumption | omega) (by first | rfl | assumption | omega) (by first | rfl | assumption | omega) (by first | rfl | assumption | omega) (by omega) H.size) (cwV 0 hts gX6_sum_X6_look rfl rfl rfl (by decide +kernel) ⟨Nat.le_of_ble_eq_true rfl, Nat.le_of_ble_eq_true rfl⟩) (zpV hK hN hZ hP hD hS hA [0, 1] rfl (by decide) 0 rfl rfl rfl) rfl rfl hl.1 rfl (lv_room (Nat.le_of_ble_eq_true rfl)) dX6_sum_10 ⟨Nat.zero_le _, Nat.zero_le _⟩) ?_
          refine zrw (if_neg hpL) ?_
          refine lv_bipush (v := nI 43) hx hb dX6_sum_13 (by decide) ?_
          refine lv_icmp_eq (tgt := 27) hx hb dX6_sum_15 (by decide) (fun c15_34 => ?_) (fun c15_34 => ?_)
          · exact absurd c15_34 (by decide)
          · refine lv_aload_n hx hb dX6_sum_18 rfl (lv_at hl 0 rfl) ?_
            refine zcsE (va_runV (As := []) (rest := []) ⟨hx, hb, hml, hown, hts⟩ (c_X6_look l D cI cJ h m0 m1 m2 m4 m9 m10 m11 m13 m16 m17 m18 m19 i3 tn sp pt S ST L u T pv ((c + ta.length)) 0 (by first | rfl | assumption | omega) (by first | rfl | assumption | omega) (by first | rfl | assumption | omega) (by first | rfl | assumption | omega) (by first | rfl | assumption | omega) (by omega) H.size) (cwV 0 hts gX6_sum_X6_look rfl rfl rfl (by decide +kernel) ⟨Nat.le_of_ble_eq_true rfl, Nat.le_of_ble_eq_true rfl⟩) (zpV hK hN hZ hP hD hS hA [0, 1] rfl (by decide) 0 rfl rfl rfl) rfl rfl hl.1 rfl (lv_room (Nat.le_of_ble_eq_true rfl)) dX6_sum_19 ⟨Nat.zero_le _, Nat.zero_le _⟩) ?_
            refine zrw (if_neg hpL) ?_
            refine lv_bipush (v := nI 45) hx hb dX6_sum_22 (by decide) ?_
            refine lv_icmp_ne (tgt := 60) hx hb dX6_sum_24 (by decide) (fun c24_35 => ?_) (fun c24_35 => ?_)
            · refine lv_iconst (v := nI 1) hx hb dX6_sum_60 (by decide) ?_
              exact hret hP hD hS dX6_sum_61 rfl (by obtain ⟨e1, e2, e3⟩ := zLe (f := f1) hz (fun h9 => by have h91 := h9.1; have h92 := zlv_3.mp h9.2; omega); subst e1; subst e2; subst e3; exact ⟨_, _, _, (by omega), fun _ => ⟨rfl, rfl, rfl⟩, (bI_t rfl).symm, rfl⟩)
            · exact absurd c24_35 (by decide)
    exact L_9 62  61 q1 t1 (by omega) hz (by omega) (by omega) (by omega) ls (lv_sub hl [0] rfl) _ _ hP hD hS
  · have c4_9 := bI_0.mp c4_9
    refine lv_iconst (v := nI 0) hx hb dX6_sum_7 (by decide) ?_
    exact hret hP hD hS dX6_sum_8 rfl (by obtain ⟨e1, e2⟩ := zLv_ff hR hR1 (by assumption); subst e1; subst e2; exact ⟨_, _, _, hq9_7, fun h9 => (by cases h9), (bI_f (by decide)).symm, rfl⟩)
set_option maxHeartbeats 4000000 in
set_option maxRecDepth 100000 in
theorem c_X6_compared_0 (l : Launch) (D : va_G) (cI cJ : ClassId) (h : Nat) (m0 : Nat) (m1 : Nat) (m2 : Nat) (m4 : Nat) (m9 : Nat) (m10 : Nat) (m11 : Nat) (m13 : Nat) (m16 : Nat) (m17 : Nat) (m18 : Nat) (m19 : Nat) (i3 : Int32) (tn : Nat) (sp : Nat) (pt : Nat) (S : Nat → Int32) (ST : Nat → Int32) (L : Nat) (u : Nat) (T : Nat → Nat) (p : Nat) (c : Nat) (b : Bool) (q : Nat) (tl : zTks) (hL : L ≤ 60) (hu1 : u ≤ 1) (hT : ∀ i, i < L → T i < 256) (htb : ∀ i, i < L → S (296 + i) = nI (T i)) (hS4 : S 4 = nI L) (hp : p ≤ L) (hcp : c ≤ p) (hR : zLS T L (zQ T L u 5) 3 p = (b, q, tl)) : zMi l yX6_compared wsX6_compared ({ frames := 34, cells := 0, slots := 0, locals := 717 } : Room) D [(cI, .int), (cJ, .array .int)] [.ref h] [(h, .inr (6, [.ref m0, .ref m1, .ref m2, .int i3, .ref m4, .int (nI p), .int (nI 0), .int (nI c), .int (nI u), .ref m9, .ref m10, .ref m11, .int (nI tn), .ref m13, .int (nI sp), .int (nI pt), .ref m16, .ref m17, .ref m18, .ref m19])), (m0, .inl (cI, 380, .inl S)), (m9, .inl (cI, 124, .inl ST))] (fun r w => ∃ (c9 o9 : Nat) (ST9 : Nat → Int32), c9 ≤ q ∧ (b = true → c9 = c + tl.length ∧ ST9 = zap2 u ST c tl ∧ o9 = 0) ∧ r = bI (b = true) ∧ w = [(h, .inr (6, [.ref m0, .ref m1, .ref m2, .int i3, .ref m4, .int (nI q), .int (nI o9), .int (nI c9), .int (nI u), .ref m9, .ref m10, .ref m11, .int (nI tn), .ref m13, .int (nI sp), .int (nI pt), .ref m16, .ref m17, .ref m18, .ref m19])), (m0, .inl (cI, 380, .inl S)), (m9, .inl (cI, 124, .inl ST9))]) := by
  refine zMi.start (cc := cX6_compared) (maxL := 2) (rt := .boolean) (by first | decide | decide +kernel) rfl (Nat.le_of_ble_eq_true rfl) ?_
  intro pg ev s mt args below meth cd ls AA QQ ⟨hx, hb, hml, hr, hlocks, hown, hts, hK, hN, hZ, hP, hD, hA, hS, hl⟩ hret
  have hown : s.vm.findClass RX6 = some mt.cls := hown
  have hl : lv_has ls 2 [(0, .ref h)] := hl
  have hin6 : ∀ w ∈ wsX60, w ∈ wsX6_compared := fun w h => List.mem_cons_of_mem _ (List.mem_append_right _ (h))
  have hR : zLv T L 2 (zLS T L (zQ T L u 5) 2) p = (b, q, tl) := hR
  obtain ⟨b1, q1, t1, hR1⟩ : ∃ (b0 : Bool) (q0 : Nat) (t0 : zTks), zLS T L (zQ T L u 5) 2 p = (b0, q0, t0) := ⟨_, _, _, rfl⟩
  have hg1 := (zLS_gd (T := T) (zQ_gd (T := T) (L := L) (u := u) 5) 2) p (by omega)
  rw [hR1] at hg1
  obtain ⟨hga1, hgb1, hgc1⟩ : p ≤ q1 ∧ q1 ≤ L ∧ (b1 = true → p < q1 ∧ t1.length ≤ q1 - p ∧ zw1 t1) := hg1
  refine lv_aload_n hx hb dX6_compared_0 rfl (lv_at hl 0 rfl) ?_
  refine zci (wr := []) (va_runV (As := []) (rest := []) ⟨hx, hb, hml, hown, hts⟩ (c_X6_sum_0 l D cI cJ h m0 m1 m2 m4 m9 m10 m11 m13 m16 m17 m18 m19 i3 tn sp pt S ST L u T p c b1 q1 t1 (by first | rfl | assumption | omega) (by first | rfl | assumption | omega) (by first | rfl | assumption | omega) (by first | rfl | assumption | omega) (by first | rfl | assumption | omega) (by first | rfl | assumption | omega) (by first | rfl | assumption | omega) hR1 s.heap.size) (cwV 0 hts gX6_compared_X6_sum rfl rfl rfl (by decide +kernel) ⟨Nat.le_of_ble_eq_true rfl, Nat.le_of_ble_eq_true rfl⟩) (zpV hK hN hZ hP hD hS hA [0, 1, 2] rfl (by decide) 0 rfl rfl rfl) rfl rfl hl.1 rfl (lv_room (Nat.le_of_ble_eq_true rfl)) dX6_compared_1 ⟨Nat.zero_le _, Nat.zero_le _⟩) hP hD hS hA [0, 1, 2] [] rfl rfl (by decide) (by decide) (fun r_3 w_2 H locs h_1 hP hD hS => ?_)
  obtain ⟨c9_4, o9_5, ST9_6, hq9_7, hx9_8, rfl, rfl⟩ := h_1
  have hP : va_P D vwCl [(h, .inr (6, [.ref m0, .ref m1, .ref m2, .int i3, .ref m4, .int (nI q1), .int (nI o9_5), .int (nI c9_4), .int (nI u), .ref m9, .ref m10, .ref m11, .int (nI tn), .ref m13, .int (nI sp), .int (nI pt), .ref m16, .ref m17, .ref m18, .ref m19])), (m0, .inl (cI, 380, .inl S)), (m9, .inl (cI, 124, .inl ST9_6))] H := hP
  have hD : va_D AA [(h, .inr (6, [.ref m0, .ref m1, .ref m2, .int i3, .ref m4, .int (nI q1), .int (nI o9_5), .int (nI c9_4), .int (nI u), .ref m9, .ref m10, .ref m11, .int (nI tn), .ref m13, .int (nI sp), .int (nI pt), .ref m16, .ref m17, .ref m18, .ref m19])), (m0, .inl (cI, 380, .inl S)), (m9, .inl (cI, 124, .inl ST9_6))] := hD
  refine lv_if_ne (tgt := 9) hx hb dX6_compared_4 (by decide) (fun c4_9 => ?_) (fun c4_9 => ?_)
  · have c4_9 := bI_n0.mp c4_9
    obtain ⟨hgd1, hge1, hgf1⟩ := hgc1 c4_9
    obtain ⟨he1, hE1, ho1⟩ := hx9_8 c4_9
    subst he1; subst hE1; subst ho1
    have hz := zLv_tt hR hR1 c4_9
    refine lv_aload_n hx hb dX6_compared_9 rfl (lv_at hl 0 rfl) ?_
    by_cases hpL : q1 < L
    · refine zcsE (va_runV (As := []) (rest := []) ⟨hx, hb, hml, hown, hts⟩ (c_X6_look l D cI cJ h m0 m1 m2 m4 m9 m10 m11 m13 m16 m17 m18 m19 i3 tn sp pt S ST L u T q1 ((c + t1.length)) 0 (by first | rfl | assumption | omega) (by first | rfl | assumption | omega) (by first | rfl | assumption | omega) (by first | rfl | assumption | omega) (by first | rfl | assumption | omega) (by omega) H.size) (cwV 0 hts gX6_compared_X6_look rfl rfl rfl (by decide +kernel) ⟨Nat.le_of_ble_eq_true rfl, Nat.le_of_ble_eq_true rfl⟩) (zpV hK hN hZ hP hD hS hA [0, 1] rfl (by decide) 0 rfl rfl rfl) rfl rfl hl.1 rfl (lv_room (Nat.le_of_ble_eq_true rfl)) dX6_compared_10 ⟨Nat.zero_le _, Nat.zero_le _⟩) ?_
      refine zrw (if_pos hpL) ?_
      refine lv_istore_n (lv' := [(1, .int (nI (T q1))), (0, .ref h)]) hx hb dX6_compared_13 rfl hl (by decide) rfl (fun ls hl => ?_)
      refine lv_iload_n hx hb dX6_compared_14 rfl (lv_at hl 0 rfl) ?_
      refine lv_bipush (v := nI 60) hx hb dX6_compared_15 (by decide) ?_
      refine lv_icmp_eq (tgt := 34) hx hb dX6_compared_17 (by decide) (fun c17_10 => ?_) (fun c17_10 => ?_)
      · have c17_10 : (T q1) = 60 := (nI_eq (a := T q1) (b := 60) (by have h91 := hT q1 (by omega); omega) (by have h91 := hT q1 (by omega); omega)).mp c17_10
        refine lv_aload_n hx hb dX6_compared_34 rfl (lv_at hl 1 rfl) ?_
        refine lv_dup hx hb dX6_compared_35 rfl ?_
        refine va_get (ci := 6) (v := .int (nI q1)) (C := RX6) (T := TX6) (N := 20) hx hb hts hin6 hown hK hP 0 rfl rfl 5 (by decide) (hts (.fieldLink RX6 61 "UpAllRoundModel" "at" "I") (List.mem_of_getElem? (i := 1) rfl)) (fun _ h9 => h9) rfl dX6_compared_36 ?_
        refine lv_iconst (v := nI 1) hx hb dX6_compared_39 (by decide) ?_
        refine lv_iadd hx hb dX6_compared_40 ?_
        refine zrw (nI_add _ _) ?_
        refine va_put (ci := 6) (v := .int (nI (q1 + 1))) (ty := .int) (C := RX6) (T := TX6) (N := 20) hx hb hts hin6 tyX6 tyX6_ok nmX6 hown hK hP hD hS 0 rfl rfl 5 (by decide) (hts (.fieldLink RX6 61 "UpAllRoundModel" "at" "I") (List.mem_of_getElem? (i := 1) rfl)) (fun _ h9 => h9) rfl (by decide +kernel) rfl rfl (Nat.le_of_ble_eq_true rfl) dX6_compared_41 (fun H locs hP hD hS => ?_)
        have hP : va_P D vwCl [(h, .inr (6, [.ref m0, .ref m1, .ref m2, .int i3, .ref m4, .int (nI (q1 + 1)), .int (nI 0), .int (nI ((c + t1.length))), .int (nI u), .ref m9, .ref m10, .ref m11, .int (nI tn), .ref m13, .int (nI sp), .int (nI pt), .ref m16, .ref m17, .ref m18, .ref m19])), (m0, .inl (cI, 380, .inl S)), (m9, .inl (cI, 124, .inl (zap2 u ST c t1)))] H := hP
        have hD : va_D AA [(h, .inr (6, [.ref m0, .ref m1, .ref m2, .int i3, .ref m4, .int (nI (q1 + 1)), .int (nI 0), .int (nI ((c + t1.length))), .int (nI u), .ref m9, .ref m10, .ref m11, .int (nI tn), .ref m13, .int (nI sp), .int (nI pt), .ref m16, .ref m17, .ref m18, .ref m19])), (m0, .inl (cI, 380, .inl S)), (m9, .inl (cI, 124, .inl (zap2 u ST c t1)))] := hD
        refine lv_aload_n hx hb dX6_compared_44 rfl (lv_at hl 1 rfl) ?_
        obtain ⟨b2, q2, t2, hR2⟩ : ∃ (b0 : Bool) (q0 : Nat) (t0 : zTks), zLS T L (zQ T L u 5) 2 (q1 + 1) = (b0, q0, t0) := ⟨_, _, _, rfl⟩
        have hg2 := (zLS_gd (T := T) (zQ_gd (T := T) (L := L) (u := u) 5) 2) (q1 + 1) (by omega)
        rw [hR2] at hg2
        obtain ⟨hga2, hgb2, hgc2⟩ : (q1 + 1) ≤ q2 ∧ q2 ≤ L ∧ (b2 = true → (q1 + 1) < q2 ∧ t2.length ≤ q2 - (q1 + 1) ∧ zw1 t2) := hg2
        refine zci (wr := []) (va_runV (As := []) (rest := []) ⟨hx, hb, hml, hown, hts⟩ (c_X6_sum_0 l D cI cJ h m0 m1 m2 m4 m9 m10 m11 m13 m16 m17 m18 m19 i3 tn sp pt S (zap2 u ST c t1) L u T (q1 + 1) ((c + t1.length)) b2 q2 t2 (by first | rfl | assumption | omega) (by first | rfl | assumption | omega) (by first | rfl | assumption | omega) (by first | rfl | assumption | omega) (by first | rfl | assumption | omega) (by omega) (by omega) hR2 H.size) (cwV 0 hts gX6_compared_X6_sum rfl rfl rfl (by decide +kernel) ⟨Nat.le_of_ble_eq_true rfl, Nat.le_of_ble_eq_true rfl⟩) (zpV hK hN hZ hP hD hS hA [0, 1, 2] rfl (by decide) 0 rfl rfl rfl) rfl rfl hl.1 rfl (lv_room (Nat.le_of_ble_eq_true rfl)) dX6_compared_45 ⟨Nat.zero_le _, Nat.zero_le _⟩) hP hD hS hA [0, 1, 2] [] rfl rfl (by decide) (by decide) (fun r_13 w_12 H locs h_11 hP hD hS => ?_)
        obtain ⟨c9_14, o9_15, ST9_16, hq9_17, hx9_18, rfl, rfl⟩ := h_11
        have hP : va_P D vwCl [(h, .inr (6, [.ref m0, .ref m1, .ref m2, .int i3, .ref m4, .int (nI q2), .int (nI o9_15), .int (nI c9_14), .int (nI u), .ref m9, .ref m10, .ref m11, .int (nI tn), .ref m13, .int (nI sp), .int (nI pt), .ref m16, .ref m17, .ref m18, .ref m19])), (m0, .inl (cI, 380, .inl S)), (m9, .inl (cI, 124, .inl ST9_16))] H := hP
        have hD : va_D AA [(h, .inr (6, [.ref m0, .ref m1, .ref m2, .int i3, .ref m4, .int (nI q2), .int (nI o9_15), .int (nI c9_14), .int (nI u), .ref m9, .ref m10, .ref m11, .int (nI tn), .ref m13, .int (nI sp), .int (nI pt), .ref m16, .ref m17, .ref m18, .ref m19])), (m0, .inl (cI, 380, .inl S)), (m9, .inl (cI, 124, .inl ST9_16))] := hD
        refine lv_if_ne (tgt := 53) hx hb dX6_compared_48 (by decide) (fun c48_19 => ?_) (fun c48_19 => ?_)
        · have c48_19 := bI_n0.mp c48_19
          obtain ⟨hgd2, hge2, hgf2⟩ := hgc2 c48_19
          obtain ⟨he2, hE2, ho2⟩ := hx9_18 c48_19
          subst he2; subst hE2; subst ho2
          refine lv_aload_n hx hb dX6_compared_53 rfl (lv_at hl 1 rfl) ?_
          refine lv_iconst (v := nI 3) hx hb dX6_compared_54 (by decide) ?_
          refine lv_iload_n hx hb dX6_compared_55 rfl (lv_at hl 0 rfl) ?_
          refine zcv (wr := [(m0, .inl (cI, 380, .inl S))]) (va_runV (As := [.int (nI 3), .int (nI (T q1))]) (rest := []) ⟨hx, hb, hml, hown, hts⟩ (c_X6_step1 l D cI cJ h m0 m1 m2 m4 m9 m10 m11 m13 m16 m17 m18 m19 i3 tn sp pt u q2 0 ((c + t1.length + t2.length)) (zap2 u (zap2 u ST c t1) (c + t1.length) t2) 3 (nI (T q1)) (by omega) H.size) (cwV 2 hts gX6_compared_X6_step1 rfl rfl rfl (by decide +kernel) ⟨Nat.le_of_ble_eq_true rfl, Nat.le_of_ble_eq_true rfl⟩) (zpV hK hN hZ hP hD hS hA [0, 2] rfl (by decide) 0 rfl rfl rfl) rfl rfl hl.1 rfl (lv_room (Nat.le_of_ble_eq_true rfl)) dX6_compared_56 ⟨Nat.zero_le _, Nat.zero_le _⟩) hP hD hS hA [0, 2] [1] rfl rfl (by decide) (by decide) (fun w_21 H locs h_20 hP hD hS => ?_)
          obtain rfl := h_20
          have hP : va_P D vwCl [(m0, .inl (cI, 380, .inl S)), (h, .inr (6, [.ref m0, .ref m1, .ref m2, .int i3, .ref m4, .int (nI q2), .int (nI 0), .int (nI ((((c + t1.length + t2.length)) + 1))), .int (nI u), .ref m9, .ref m10, .ref m11, .int (nI tn), .ref m13, .int (nI sp), .int (nI pt), .ref m16, .ref m17, .ref m18, .ref m19])), (m9, .inl (cI, 124, .inl ((upd (upd (zap2 u (zap2 u ST c t1) (c + t1.length) t2) (2 * ((c + t1.length + t2.length))) (nI 3)) (2 * ((c + t1.length + t2.length)) + 1) (nI (T q1))))))] H := hP
          have hD : va_D AA [(m0, .inl (cI, 380, .inl S)), (h, .inr (6, [.ref m0, .ref m1, .ref m2, .int i3, .ref m4, .int (nI q2), .int (nI 0), .int (nI ((((c + t1.length + t2.length)) + 1))), .int (nI u), .ref m9, .ref m10, .ref m11, .int (nI tn), .ref m13, .int (nI sp), .int (nI pt), .ref m16, .ref m17, .ref m18, .ref m19])), (m9, .inl (cI, 124, .inl ((upd (upd (zap2 u (zap2 u ST c t1) (c + t1.length) t2) (2 * ((c + t1.length + t2.length))) (nI 3)) (2 * ((c + t1.length + t2.length)) + 1) (nI (T q1))))))] := hD
          refine lv_iconst (v := nI 1) hx hb dX6_compared_59 (by decide) ?_
          have hP := hP.sub (ws' := [(h, .inr (6, [.ref m0, .ref m1, .ref m2, .int i3, .ref m4, .int (nI q2), .int (nI 0), .int (nI ((((c + t1.length + t2.length)) + 1))), .int (nI u), .ref m9, .ref m10, .ref m11, .int (nI tn), .ref m13, .int (nI sp), .int (nI pt), .ref m16, .ref m17, .ref m18, .ref m19])), (m0, .inl (cI, 380, .inl S)), (m9, .inl (cI, 124, .inl ((upd (upd (zap2 u (zap2 u ST c t1) (c + t1.length) t2) (2 * ((c + t1.length + t2.length))) (nI 3)) (2 * ((c + t1.length + t2.length)) + 1) (nI (T q1))))))]) [1, 0, 2] rfl
          have hD := hD.sub (ws' := [(h, .inr (6, [.ref m0, .ref m1, .ref m2, .int i3, .ref m4, .int (nI q2), .int (nI 0), .int (nI ((((c + t1.length + t2.length)) + 1))), .int (nI u), .ref m9, .ref m10, .ref m11, .int (nI tn), .ref m13, .int (nI sp), .int (nI pt), .ref m16, .ref m17, .ref m18, .ref m19])), (m0, .inl (cI, 380, .inl S)), (m9, .inl (cI, 124, .inl ((upd (upd (zap2 u (zap2 u ST c t1) (c + t1.length) t2) (2 * ((c + t1.length + t2.length))) (nI 3)) (2 * ((c + t1.length + t2.length)) + 1) (nI (T q1))))))]) [1, 0, 2] (by decide) rfl
          exact hret hP hD hS dX6_compared_60 rfl (by obtain ⟨e1, e2, e3⟩ := zL2 hz ⟨by omega, zlv_2.mpr (by omega)⟩ hR2 (by assumption); subst e1; subst e2; subst e3; exact ⟨_, _, _, show c + t1.length + t2.length + 1 ≤ _ from (by omega), fun _ => ⟨zlen1, zap21 (t := (3, T q1)), rfl⟩, (bI_t rfl).symm, rfl⟩)
        · have c48_19 := bI_0.mp c48_19
          refine lv_iconst (v := nI 0) hx hb dX6_compared_51 (by decide) ?_
          exact hret hP hD hS dX6_compared_52 rfl (by obtain ⟨e1, e2⟩ := zLf hz ⟨by omega, zlv_2.mpr (by omega)⟩ hR2 (by assumption); subst e1; subst e2; exact ⟨_, _, _, hq9_17, fun h9 => (by cases h9), (bI_f (by decide)).symm, rfl⟩)
      · have c17_10 : ¬ ((T q1) = 60) := fun h9 => c17_10 ((nI_eq (a := T q1) (b := 60) (by have h91 := hT q1 (by omega); omega) (by have h91 := hT q1 (by omega); omega)).mpr h9)
        refine lv_iload_n hx hb dX6_compared_20 rfl (lv_at hl 0 rfl) ?_
        refine lv_bipush (v := nI 61) hx hb dX6_compared_21 (by decide) ?_
        refine lv_icmp_eq (tgt := 34) hx hb dX6_compared_23 (by decide) (fun c23_22 => ?_) (fun c23_22 => ?_)
        · have c23_22 : (T q1) = 61 := (nI_eq (a := T q1) (b := 61) (by have h91 := hT q1 (by omega); omega) (by have h91 := hT q1 (by omega); omega)).mp c23_22
          refine lv_aload_n hx hb dX6_compared_34 rfl (lv_at hl 1 rfl) ?_
          refine lv_dup hx hb dX6_compared_35 rfl ?_
          refine va_get (ci := 6) (v := .int (nI q1)) (C := RX6) (T := TX6) (N := 20) hx hb hts hin6 hown hK hP 0 rfl rfl 5 (by decide) (hts (.fieldLink RX6 61 "UpAllRoundModel" "at" "I") (List.mem_of_getElem? (i := 1) rfl)) (fun _ h9 => h9) rfl dX6_compared_36 ?_
          refine lv_iconst (v := nI 1) hx hb dX6_compared_39 (by decide) ?_
          refine lv_iadd hx hb dX6_compared_40 ?_
          refine zrw (nI_add _ _) ?_
          refine va_put (ci := 6) (v := .int (nI (q1 + 1))) (ty := .int) (C := RX6) (T := TX6) (N := 20) hx hb hts hin6 tyX6 tyX6_ok nmX6 hown hK hP hD hS 0 rfl rfl 5 (by decide) (hts (.fieldLink RX6 61 "UpAllRoundModel" "at" "I") (List.mem_of_getElem? (i := 1) rfl)) (fun _ h9 => h9) rfl (by decide +kernel) rfl rfl (Nat.le_of_ble_eq_true rfl) dX6_compared_41 (fun H locs hP hD hS => ?_)
          have hP : va_P D vwCl [(h, .inr (6, [.ref m0, .ref m1, .ref m2, .int i3, .ref m4, .int (nI (q1 + 1)), .int (nI 0), .int (nI ((c + t1.length))), .int (nI u), .ref m9, .ref m10, .ref m11, .int (nI tn), .ref m13, .int (nI sp), .int (nI pt), .ref m16, .ref m17, .ref m18, .ref m19])), (m0, .inl (cI, 380, .inl S)), (m9, .inl (cI, 124, .inl (zap2 u ST c t1)))] H := hP
          have hD : va_D AA [(h, .inr (6, [.ref m0, .ref m1, .ref m2, .int i3, .ref m4, .int (nI (q1 + 1)), .int (nI 0), .int (nI ((c + t1.length))), .int (nI u), .ref m9, .ref m10, .ref m11, .int (nI tn), .ref m13, .int (nI sp), .int (nI pt), .ref m16, .ref m17, .ref m18, .ref m19])), (m0, .inl (cI, 380, .inl S)), (m9, .inl (cI, 124, .inl (zap2 u ST c t1)))] := hD
          refine lv_aload_n hx hb dX6_compared_44 rfl (lv_at hl 1 rfl) ?_
          obtain ⟨b2, q2, t2, hR2⟩ : ∃ (b0 : Bool) (q0 : Nat) (t0 : zTks), zLS T L (zQ T L u 5) 2 (q1 + 1) = (b0, q0, t0) := ⟨_, _, _, rfl⟩
          have hg2 := (zLS_gd (T := T) (zQ_gd (T := T) (L := L) (u := u) 5) 2) (q1 + 1) (by omega)
          rw [hR2] at hg2
          obtain ⟨hga2, hgb2, hgc2⟩ : (q1 + 1) ≤ q2 ∧ q2 ≤ L ∧ (b2 = true → (q1 + 1) < q2 ∧ t2.length ≤ q2 - (q1 + 1) ∧ zw1 t2) := hg2
          refine zci (wr := []) (va_runV (As := []) (rest := []) ⟨hx, hb, hml, hown, hts⟩ (c_X6_sum_0 l D cI cJ h m0 m1 m2 m4 m9 m10 m11 m13 m16 m17 m18 m19 i3 tn sp pt S (zap2 u ST c t1) L u T (q1 + 1) ((c + t1.length)) b2 q2 t2 (by first | rfl | assumption | omega) (by first | rfl | assumption | omega) (by first | rfl | assumption | omega) (by first | rfl | assumption | omega) (by first | rfl | assumption | omega) (by omega) (by omega) hR2 H.size) (cwV 0 hts gX6_compared_X6_sum rfl rfl rfl (by decide +kernel) ⟨Nat.le_of_ble_eq_true rfl, Nat.le_of_ble_eq_true rfl⟩) (zpV hK hN hZ hP hD hS hA [0, 1, 2] rfl (by decide) 0 rfl rfl rfl) rfl rfl hl.1 rfl (lv_room (Nat.le_of_ble_eq_true rfl)) dX6_compared_45 ⟨Nat.zero_le _, Nat.zero_le _⟩) hP hD hS hA [0, 1, 2] [] rfl rfl (by decide) (by decide) (fun r_25 w_24 H locs h_23 hP hD hS => ?_)
          obtain ⟨c9_26, o9_27, ST9_28, hq9_29, hx9_30, rfl, rfl⟩ := h_23
          have hP : va_P D vwCl [(h, .inr (6, [.ref m0, .ref m1, .ref m2, .int i3, .ref m4, .int (nI q2), .int (nI o9_27), .int (nI c9_26), .int (nI u), .ref m9, .ref m10, .ref m11, .int (nI tn), .ref m13, .int (nI sp), .int (nI pt), .ref m16, .ref m17, .ref m18, .ref m19])), (m0, .inl (cI, 380, .inl S)), (m9, .inl (cI, 124, .inl ST9_28))] H := hP
          have hD : va_D AA [(h, .inr (6, [.ref m0, .ref m1, .ref m2, .int i3, .ref m4, .int (nI q2), .int (nI o9_27), .int (nI c9_26), .int (nI u), .ref m9, .ref m10, .ref m11, .int (nI tn), .ref m13, .int (nI sp), .int (nI pt), .ref m16, .ref m17, .ref m18, .ref m19])), (m0, .inl (cI, 380, .inl S)), (m9, .inl (cI, 124, .inl ST9_28))] := hD
          refine lv_if_ne (tgt := 53) hx hb dX6_compared_48 (by decide) (fun c48_31 => ?_) (fun c48_31 => ?_)
          · have c48_31 := bI_n0.mp c48_31
            obtain ⟨hgd2, hge2, hgf2⟩ := hgc2 c48_31
            obtain ⟨he2, hE2, ho2⟩ := hx9_30 c48_31
            subst he2; subst hE2; subst ho2
            refine lv_aload_n hx hb dX6_compared_53 rfl (lv_at hl 1 rfl) ?_
            refine lv_iconst (v := nI 3) hx hb dX6_compared_54 (by decide) ?_
            refine lv_iload_n hx hb dX6_compared_55 rfl (lv_at hl 0 rfl) ?_
            refine zcv (wr := [(m0, .inl (cI, 380, .inl S))]) (va_runV (As := [.int (nI 3), .int (nI (T q1))]) (rest := []) ⟨hx, hb, hml, hown, hts⟩ (c_X6_step1 l D cI cJ h m0 m1 m2 m4 m9 m10 m11 m13 m16 m17 m18 m19 i3 tn sp pt u q2 0 ((c + t1.length + t2.length)) (zap2 u (zap2 u ST c t1) (c + t1.length) t2) 3 (nI (T q1)) (by omega) H.size) (cwV 2 hts gX6_compared_X6_step1 rfl rfl rfl (by decide +kernel) ⟨Nat.le_of_ble_eq_true rfl, Nat.le_of_ble_eq_true rfl⟩) (zpV hK hN hZ hP hD hS hA [0, 2] rfl (by decide) 0 rfl rfl rfl) rfl rfl hl.1 rfl (lv_room (Nat.le_of_ble_eq_true rfl)) dX6_compared_56 ⟨Nat.zero_le _, Nat.zero_le _⟩) hP hD hS hA [0, 2] [1] rfl rfl (by decide) (by decide) (fun w_33 H locs h_32 hP hD hS => ?_)
            obtain rfl := h_32
            have hP : va_P D vwCl [(m0, .inl (cI, 380, .inl S)), (h, .inr (6, [.ref m0, .ref m1, .ref m2, .int i3, .ref m4, .int (nI q2), .int (nI 0), .int (nI ((((c + t1.length + t2.length)) + 1))), .int (nI u), .ref m9, .ref m10, .ref m11, .int (nI tn), .ref m13, .int (nI sp), .int (nI pt), .ref m16, .ref m17, .ref m18, .ref m19])), (m9, .inl (cI, 124, .inl ((upd (upd (zap2 u (zap2 u ST c t1) (c + t1.length) t2) (2 * ((c + t1.length + t2.length))) (nI 3)) (2 * ((c + t1.length + t2.length)) + 1) (nI (T q1))))))] H := hP
            have hD : va_D AA [(m0, .inl (cI, 380, .inl S)), (h, .inr (6, [.ref m0, .ref m1, .ref m2, .int i3, .ref m4, .int (nI q2), .int (nI 0), .int (nI ((((c + t1.length + t2.length)) + 1))), .int (nI u), .ref m9, .ref m10, .ref m11, .int (nI tn), .ref m13, .int (nI sp), .int (nI pt), .ref m16, .ref m17, .ref m18, .ref m19])), (m9, .inl (cI, 124, .inl ((upd (upd (zap2 u (zap2 u ST c t1) (c + t1.length) t2) (2 * ((c + t1.length + t2.length))) (nI 3)) (2 * ((c + t1.length + t2.length)) + 1) (nI (T q1))))))] := hD
            refine lv_iconst (v := nI 1) hx hb dX6_compared_59 (by decide) ?_
            have hP := hP.sub (ws' := [(h, .inr (6, [.ref m0, .ref m1, .ref m2, .int i3, .ref m4, .int (nI q2), .int (nI 0), .int (nI ((((c + t1.length + t2.length)) + 1))), .int (nI u), .ref m9, .ref m10, .ref m11, .int (nI tn), .ref m13, .int (nI sp), .int (nI pt), .ref m16, .ref m17, .ref m18, .ref m19])), (m0, .inl (cI, 380, .inl S)), (m9, .inl (cI, 124, .inl ((upd (upd (zap2 u (zap2 u ST c t1) (c + t1.length) t2) (2 * ((c + t1.length + t2.length))) (nI 3)) (2 * ((c + t1.length + t2.length)) + 1) (nI (T q1))))))]) [1, 0, 2] rfl
            have hD := hD.sub (ws' := [(h, .inr (6, [.ref m0, .ref m1, .ref m2, .int i3, .ref m4, .int (nI q2), .int (nI 0), .int (nI ((((c + t1.length + t2.length)) + 1))), .int (nI u), .ref m9, .ref m10, .ref m11, .int (nI tn), .ref m13, .int (nI sp), .int (nI pt), .ref m16, .ref m17, .ref m18, .ref m19])), (m0, .inl (cI, 380, .inl S)), (m9, .inl (cI, 124, .inl ((upd (upd (zap2 u (zap2 u ST c t1) (c + t1.length) t2) (2 * ((c + t1.length + t2.length))) (nI 3)) (2 * ((c + t1.length + t2.length)) + 1) (nI (T q1))))))]) [1, 0, 2] (by decide) rfl
            exact hret hP hD hS dX6_compared_60 rfl (by obtain ⟨e1, e2, e3⟩ := zL2 hz ⟨by omega, zlv_2.mpr (by omega)⟩ hR2 (by assumption); subst e1; subst e2; subst e3; exact ⟨_, _, _, show c + t1.length + t2.length + 1 ≤ _ from (by omega), fun _ => ⟨zlen1, zap21 (t := (3, T q1)), rfl⟩, (bI_t rfl).symm, rfl⟩)
          · have c48_31 := bI_0.mp c48_31
            refine lv_iconst (v := nI 0) hx hb dX6_compared_51 (by decide) ?_
            exact hret hP hD hS dX6_compared_52 rfl (by obtain ⟨e1, e2⟩ := zLf hz ⟨by omega, zlv_2.mpr (by omega)⟩ hR2 (by assumption); subst e1; subst e2; exact ⟨_, _, _, hq9_29, fun h9 => (by cases h9), (bI_f (by decide)).symm, rfl⟩)
        · have c23_22 : ¬ ((T q1) = 61) := fun h9 => c23_22 ((nI_eq (a := T q1) (b := 61) (by have h91 := hT q1 (by omega); omega) (by have h91 := hT q1 (by omega); omega)).mpr h9)
          refine lv_iload_n hx hb dX6_compared_26 rfl (lv_at hl 0 rfl) ?_
          refine lv_bipush (v := nI 62) hx hb dX6_compared_27 (by decide) ?_
          refine lv_icmp_eq (tgt := 34) hx hb dX6_compared_29 (by decide) (fun c29_34 => ?_) (fun c29_34 => ?_)
          · have c29_34 : (T q1) = 62 := (nI_eq (a := T q1) (b := 62) (by have h91 := hT q1 (by omega); omega) (by have h91 := hT q1 (by omega); omega)).mp c29_34
            refine lv_aload_n hx hb dX6_compared_34 rfl (lv_at hl 1 rfl) ?_
            refine lv_dup hx hb dX6_compared_35 rfl ?_
            refine va_get (ci := 6) (v := .int (nI q1)) (C := RX6) (T := TX6) (N := 20) hx hb hts hin6 hown hK hP 0 rfl rfl 5 (by decide) (hts (.fieldLink RX6 61 "UpAllRoundModel" "at" "I") (List.mem_of_getElem? (i := 1) rfl)) (fun _ h9 => h9) rfl dX6_compared_36 ?_
            refine lv_iconst (v := nI 1) hx hb dX6_compared_39 (by decide) ?_
            refine lv_iadd hx hb dX6_compared_40 ?_
            refine zrw (nI_add _ _) ?_
            refine va_put (ci := 6) (v := .int (nI (q1 + 1))) (ty := .int) (C := RX6) (T := TX6) (N := 20) hx hb hts hin6 tyX6 tyX6_ok nmX6 hown hK hP hD hS 0 rfl rfl 5 (by decide) (hts (.fieldLink RX6 61 "UpAllRoundModel" "at" "I") (List.mem_of_getElem? (i := 1) rfl)) (fun _ h9 => h9) rfl (by decide +kernel) rfl rfl (Nat.le_of_ble_eq_true rfl) dX6_compared_41 (fun H locs hP hD hS => ?_)
            have hP : va_P D vwCl [(h, .inr (6, [.ref m0, .ref m1, .ref m2, .int i3, .ref m4, .int (nI (q1 + 1)), .int (nI 0), .int (nI ((c + t1.length))), .int (nI u), .ref m9, .ref m10, .ref m11, .int (nI tn), .ref m13, .int (nI sp), .int (nI pt), .ref m16, .ref m17, .ref m18, .ref m19])), (m0, .inl (cI, 380, .inl S)), (m9, .inl (cI, 124, .inl (zap2 u ST c t1)))] H := hP
            have hD : va_D AA [(h, .inr (6, [.ref m0, .ref m1, .ref m2, .int i3, .ref m4, .int (nI (q1 + 1)), .int (nI 0), .int (nI ((c + t1.length))), .int (nI u), .ref m9, .ref m10, .ref m11, .int (nI tn), .ref m13, .int (nI sp), .int (nI pt), .ref m16, .ref m17, .ref m18, .ref m19])), (m0, .inl (cI, 380, .inl S)), (m9, .inl (cI, 124, .inl (zap2 u ST c t1)))] := hD
            refine lv_aload_n hx hb dX6_compared_44 rfl (lv_at hl 1 rfl) ?_
            obtain ⟨b2, q2, t2, hR2⟩ : ∃ (b0 : Bool) (q0 : Nat) (t0 : zTks), zLS T L (zQ T L u 5) 2 (q1 + 1) = (b0, q0, t0) := ⟨_, _, _, rfl⟩
            have hg2 := (zLS_gd (T := T) (zQ_gd (T := T) (L := L) (u := u) 5) 2) (q1 + 1) (by omega)
            rw [hR2] at hg2
            obtain ⟨hga2, hgb2, hgc2⟩ : (q1 + 1) ≤ q2 ∧ q2 ≤ L ∧ (b2 = true → (q1 + 1) < q2 ∧ t2.length ≤ q2 - (q1 + 1) ∧ zw1 t2) := hg2
            refine zci (wr := []) (va_runV (As := []) (rest := []) ⟨hx, hb, hml, hown, hts⟩ (c_X6_sum_0 l D cI cJ h m0 m1 m2 m4 m9 m10 m11 m13 m16 m17 m18 m19 i3 tn sp pt S (zap2 u ST c t1) L u T (q1 + 1) ((c + t1.length)) b2 q2 t2 (by first | rfl | assumption | omega) (by first | rfl | assumption | omega) (by first | rfl | assumption | omega) (by first | rfl | assumption | omega) (by first | rfl | assumption | omega) (by omega) (by omega) hR2 H.size) (cwV 0 hts gX6_compared_X6_sum rfl rfl rfl (by decide +kernel) ⟨Nat.le_of_ble_eq_true rfl, Nat.le_of_ble_eq_true rfl⟩) (zpV hK hN hZ hP hD hS hA [0, 1, 2] rfl (by decide) 0 rfl rfl rfl) rfl rfl hl.1 rfl (lv_room (Nat.le_of_ble_eq_true rfl)) dX6_compared_45 ⟨Nat.zero_le _, Nat.zero_le _⟩) hP hD hS hA [0, 1, 2] [] rfl rfl (by decide) (by decide) (fun r_37 w_36 H locs h_35 hP hD hS => ?_)
            obtain ⟨c9_38, o9_39, ST9_40, hq9_41, hx9_42, rfl, rfl⟩ := h_35
            have hP : va_P D vwCl [(h, .inr (6, [.ref m0, .ref m1, .ref m2, .int i3, .ref m4, .int (nI q2), .int (nI o9_39), .int (nI c9_38), .int (nI u), .ref m9, .ref m10, .ref m11, .int (nI tn), .ref m13, .int (nI sp), .int (nI pt), .ref m16, .ref m17, .ref m18, .ref m19])), (m0, .inl (cI, 380, .inl S)), (m9, .inl (cI, 124, .inl ST9_40))] H := hP
            have hD : va_D AA [(h, .inr (6, [.ref m0, .ref m1, .ref m2, .int i3, .ref m4, .int (nI q2), .int (nI o9_39), .int (nI c9_38), .int (nI u), .ref m9, .ref m10, .ref m11, .int (nI tn), .ref m13, .int (nI sp), .int (nI pt), .ref m16, .ref m17, .ref m18, .ref m19])), (m0, .inl (cI, 380, .inl S)), (m9, .inl (cI, 124, .inl ST9_40))] := hD
            refine lv_if_ne (tgt := 53) hx hb dX6_compared_48 (by decide) (fun c48_43 => ?_) (fun c48_43 => ?_)
            · have c48_43 := bI_n0.mp c48_43
              obtain ⟨hgd2, hge2, hgf2⟩ := hgc2 c48_43
              obtain ⟨he2, hE2, ho2⟩ := hx9_42 c48_43
              subst he2; subst hE2; subst ho2
              refine lv_aload_n hx hb dX6_compared_53 rfl (lv_at hl 1 rfl) ?_
              refine lv_iconst (v := nI 3) hx hb dX6_compared_54 (by decide) ?_
              refine lv_iload_n hx hb dX6_compared_55 rfl (lv_at hl 0 rfl) ?_
              refine zcv (wr := [(m0, .inl (cI, 380, .inl S))]) (va_runV (As := [.int (nI 3), .int (nI (T q1))]) (rest := []) ⟨hx, hb, hml, hown, hts⟩ (c_X6_step1 l D cI cJ h m0 m1 m2 m4 m9 m10 m11 m13 m16 m17 m18 m19 i3 tn sp pt u q2 0 ((c + t1.length + t2.length)) (zap2 u (zap2 u ST c t1) (c + t1.length) t2) 3 (nI (T q1)) (by omega) H.size) (cwV 2 hts gX6_compared_X6_step1 rfl rfl rfl (by decide +kernel) ⟨Nat.le_of_ble_eq_true rfl, Nat.le_of_ble_eq_true rfl⟩) (zpV hK hN hZ hP hD hS hA [0, 2] rfl (by decide) 0 rfl rfl rfl) rfl rfl hl.1 rfl (lv_room (Nat.le_of_ble_eq_true rfl)) dX6_compared_56 ⟨Nat.zero_le _, Nat.zero_le _⟩) hP hD hS hA [0, 2] [1] rfl rfl (by decide) (by decide) (fun w_45 H locs h_44 hP hD hS => ?_)
              obtain rfl := h_44
              have hP : va_P D vwCl [(m0, .inl (cI, 380, .inl S)), (h, .inr (6, [.ref m0, .ref m1, .ref m2, .int i3, .ref m4, .int (nI q2), .int (nI 0), .int (nI ((((c + t1.length + t2.length)) + 1))), .int (nI u), .ref m9, .ref m10, .ref m11, .int (nI tn), .ref m13, .int (nI sp), .int (nI pt), .ref m16, .ref m17, .ref m18, .ref m19])), (m9, .inl (cI, 124, .inl ((upd (upd (zap2 u (zap2 u ST c t1) (c + t1.length) t2) (2 * ((c + t1.length + t2.length))) (nI 3)) (2 * ((c + t1.length + t2.length)) + 1) (nI (T q1))))))] H := hP
              have hD : va_D AA [(m0, .inl (cI, 380, .inl S)), (h, .inr (6, [.ref m0, .ref m1, .ref m2, .int i3, .ref m4, .int (nI q2), .int (nI 0), .int (nI ((((c + t1.length + t2.length)) + 1))), .int (nI u), .ref m9, .ref m10, .ref m11, .int (nI tn), .ref m13, .int (nI sp), .int (nI pt), .ref m16, .ref m17, .ref m18, .ref m19])), (m9, .inl (cI, 124, .inl ((upd (upd (zap2 u (zap2 u ST c t1) (c + t1.length) t2) (2 * ((c + t1.length + t2.length))) (nI 3)) (2 * ((c + t1.length + t2.length)) + 1) (nI (T q1))))))] := hD
              refine lv_iconst (v := nI 1) hx hb dX6_compared_59 (by decide) ?_
              have hP := hP.sub (ws' := [(h, .inr (6, [.ref m0, .ref m1, .ref m2, .int i3, .ref m4, .int (nI q2), .int (nI 0), .int (nI ((((c + t1.length + t2.length)) + 1))), .int (nI u), .ref m9, .ref m10, .ref m11, .int (nI tn), .ref m13, .int (nI sp), .int (nI pt), .ref m16, .ref m17, .ref m18, .ref m19])), (m0, .inl (cI, 380, .inl S)), (m9, .inl (cI, 124, .inl ((upd (upd (zap2 u (zap2 u ST c t1) (c + t1.length) t2) (2 * ((c + t1.length + t2.length))) (nI 3)) (2 * ((c + t1.length + t2.length)) + 1) (nI (T q1))))))]) [1, 0, 2] rfl
              have hD := hD.sub (ws' := [(h, .inr (6, [.ref m0, .ref m1, .ref m2, .int i3, .ref m4, .int (nI q2), .int (nI 0), .int (nI ((((c + t1.length + t2.length)) + 1))), .int (nI u), .ref m9, .ref m10, .ref m11, .int (nI tn), .ref m13, .int (nI sp), .int (nI pt), .ref m16, .ref m17, .ref m18, .ref m19])), (m0, .inl (cI, 380, .inl S)), (m9, .inl (cI, 124, .inl ((upd (upd (zap2 u (zap2 u ST c t1) (c + t1.length) t2) (2 * ((c + t1.length + t2.length))) (nI 3)) (2 * ((c + t1.length + t2.length)) + 1) (nI (T q1))))))]) [1, 0, 2] (by decide) rfl
              exact hret hP hD hS dX6_compared_60 rfl (by obtain ⟨e1, e2, e3⟩ := zL2 hz ⟨by omega, zlv_2.mpr (by omega)⟩ hR2 (by assumption); subst e1; subst e2; subst e3; exact ⟨_, _, _, show c + t1.length + t2.length + 1 ≤ _ from (by omega), fun _ => ⟨zlen1, zap21 (t := (3, T q1)), rfl⟩, (bI_t rfl).symm, rfl⟩)
            · have c48_43 := bI_0.mp c48_43
              refine lv_iconst (v := nI 0) hx hb dX6_compared_51 (by decide) ?_
              exact hret hP hD hS dX6_compared_52 rfl (by obtain ⟨e1, e2⟩ := zLf hz ⟨by omega, zlv_2.mpr (by omega)⟩ hR2 (by assumption); subst e1; subst e2; exact ⟨_, _, _, hq9_41, fun h9 => (by cases h9), (bI_f (by decide)).symm, rfl⟩)
          · have c29_34 : ¬ ((T q1) = 62) := fun h9 => c29_34 ((nI_eq (a := T q1) (b := 62) (by have h91 := hT q1 (by omega); omega) (by have h91 := hT q1 (by omega); omega)).mpr h9)
            refine lv_iconst (v := nI 1) hx hb dX6_compared_32 (by decide) ?_
            exact hret hP hD hS dX6_compared_33 rfl (by obtain ⟨e1, e2, e3⟩ := zLe (f := 60) hz (fun h9 => by have h91 := h9.1; have h92 := zlv_2.mp h9.2; omega); subst e1; subst e2; subst e3; exact ⟨_, _, _, (by omega), fun _ => ⟨rfl, rfl, rfl⟩, (bI_t rfl).symm, rfl⟩)
    · refine zcsE (va_runV (As := []) (rest := []) ⟨hx, hb, hml, hown, hts⟩ (c_X6_look l D cI cJ h m0 m1 m2 m4 m9 m10 m11 m13 m16 m17 m18 m19 i3 tn sp pt S ST L u T q1 ((c + t1.length)) 0 (by first | rfl | assumption | omega) (by first | rfl | assumption | omega) (by first | rfl | assumption | omega) (by first | rfl | assumption | omega) (by first | rfl | assumption | omega) (by omega) H.size) (cwV 0 hts gX6_compared_X6_look rfl rfl rfl (by decide +kernel) ⟨Nat.le_of_ble_eq_true rfl, Nat.le_of_ble_eq_true rfl⟩) (zpV hK hN hZ hP hD hS hA [0, 1] rfl (by decide) 0 rfl rfl rfl) rfl rfl hl.1 rfl (lv_room (Nat.le_of_ble_eq_true rfl)) dX6_compared_10 ⟨Nat.zero_le _, Nat.zero_le _⟩) ?_
      refine zrw (if_neg hpL) ?_
      refine lv_istore_n (lv' := [(1, .int ((-1))), (0, .ref h)]) hx hb dX6_compared_13 rfl hl (by decide) rfl (fun ls hl => ?_)
      refine lv_iload_n hx hb dX6_compared_14 rfl (lv_at hl 0 rfl) ?_
      refine lv_bipush (v := nI 60) hx hb dX6_compared_15 (by decide) ?_
      refine lv_icmp_eq (tgt := 34) hx hb dX6_compared_17 (by decide) (fun c17_46 => ?_) (fun c17_46 => ?_)
      · exact absurd c17_46 (by decide)
      · refine lv_iload_n hx hb dX6_compared_20 rfl (lv_at hl 0 rfl) ?_
        refine lv_bipush (v := nI 61) hx hb dX6_compared_21 (by decide) ?_
        refine lv_icmp_eq (tgt := 34) hx hb dX6_compared_23 (by decide) (fun c23_47 => ?_) (fun c23_47 => ?_)
        · exact absurd c23_47 (by decide)
        · refine lv_iload_n hx hb dX6_compared_26 rfl (lv_at hl 0 rfl) ?_
          refine lv_bipush (v := nI 62) hx hb dX6_compared_27 (by decide) ?_
          refine lv_icmp_eq (tgt := 34) hx hb dX6_compared_29 (by decide) (fun c29_48 => ?_) (fun c29_48 => ?_)
          · exact absurd c29_48 (by decide)
          · refine lv_iconst (v := nI 1) hx hb dX6_compared_32 (by decide) ?_
            exact hret hP hD hS dX6_compared_33 rfl (by obtain ⟨e1, e2, e3⟩ := zLe (f := 60) hz (fun h9 => by have h91 := h9.1; have h92 := zlv_2.mp h9.2; omega); subst e1; subst e2; subst e3; exact ⟨_, _, _, (by omega), fun _ => ⟨rfl, rfl, rfl⟩, (bI_t rfl).symm, rfl⟩)
  · have c4_9 := bI_0.mp c4_9
    refine lv_iconst (v := nI 0) hx hb dX6_compared_7 (by decide) ?_
    exact hret hP hD hS dX6_compared_8 rfl (by obtain ⟨e1, e2⟩ := zLv_ff hR hR1 (by assumption); subst e1; subst e2; exact ⟨_, _, _, hq9_7, fun h9 => (by cases h9), (bI_f (by decide)).symm, rfl⟩)
set_option maxHeartbeats 4000000 in
set_option maxRecDepth 100000 in
theorem c_X6_both_0 (l : Launch) (D : va_G) (cI cJ : ClassId) (h : Nat) (m0 : Nat) (m1 : Nat) (m2 : Nat) (m4 : Nat) (m9 : Nat) (m10 : Nat) (m11 : Nat) (m13 : Nat) (m16 : Nat) (m17 : Nat) (m18 : Nat) (m19 : Nat) (i3 : Int32) (tn : Nat) (sp : Nat) (pt : Nat) (S : Nat → Int32) (ST : Nat → Int32) (L : Nat) (u : Nat) (T : Nat → Nat) (p : Nat) (c : Nat) (b : Bool) (q : Nat) (tl : zTks) (hL : L ≤ 60) (hu1 : u ≤ 1) (hT : ∀ i, i < L → T i < 256) (htb : ∀ i, i < L → S (296 + i) = nI (T i)) (hS4 : S 4 = nI L) (hp : p ≤ L) (hcp : c ≤ p) (hR : zLS T L (zQ T L u 5) 4 p = (b, q, tl)) : zMi l yX6_both wsX6_both ({ frames := 35, cells := 0, slots := 0, locals := 738 } : Room) D [(cI, .int), (cJ, .array .int)] [.ref h] [(h, .inr (6, [.ref m0, .ref m1, .ref m2, .int i3, .ref m4, .int (nI p), .int (nI 0), .int (nI c), .int (nI u), .ref m9, .ref m10, .ref m11, .int (nI tn), .ref m13, .int (nI sp), .int (nI pt), .ref m16, .ref m17, .ref m18, .ref m19])), (m0, .inl (cI, 380, .inl S)), (m9, .inl (cI, 124, .inl ST))] (fun r w => ∃ (c9 o9 : Nat) (ST9 : Nat → Int32), c9 ≤ q ∧ (b = true → c9 = c + tl.length ∧ ST9 = zap2 u ST c tl ∧ o9 = 0) ∧ r = bI (b = true) ∧ w = [(h, .inr (6, [.ref m0, .ref m1, .ref m2, .int i3, .ref m4, .int (nI q), .int (nI o9), .int (nI c9), .int (nI u), .ref m9, .ref m10, .ref m11, .int (nI tn), .ref m13, .int (nI sp), .int (nI pt), .ref m16, .ref m17, .ref m18, .ref m19])), (m0, .inl (cI, 380, .inl S)), (m9, .inl (cI, 124, .inl ST9))]) := by
  refine zMi.start (cc := cX6_both) (maxL := 1) (rt := .boolean) (by first | decide | decide +kernel) rfl (Nat.le_of_ble_eq_true rfl) ?_
  intro pg ev s mt args below meth cd ls AA QQ ⟨hx, hb, hml, hr, hlocks, hown, hts, hK, hN, hZ, hP, hD, hA, hS, hl⟩ hret
  have hown : s.vm.findClass RX6 = some mt.cls := hown
  have hl : lv_has ls 1 [(0, .ref h)] := hl
  have hin6 : ∀ w ∈ wsX60, w ∈ wsX6_both := fun w h => List.mem_cons_of_mem _ (List.mem_append_right _ (h))
  have hR : zLv T L 1 (zLS T L (zQ T L u 5) 3) p = (b, q, tl) := hR
  obtain ⟨b1, q1, t1, hR1⟩ : ∃ (b0 : Bool) (q0 : Nat) (t0 : zTks), zLS T L (zQ T L u 5) 3 p = (b0, q0, t0) := ⟨_, _, _, rfl⟩
  have hg1 := (zLS_gd (T := T) (zQ_gd (T := T) (L := L) (u := u) 5) 3) p (by omega)
  rw [hR1] at hg1
  obtain ⟨hga1, hgb1, hgc1⟩ : p ≤ q1 ∧ q1 ≤ L ∧ (b1 = true → p < q1 ∧ t1.length ≤ q1 - p ∧ zw1 t1) := hg1
  refine lv_aload_n hx hb dX6_both_0 rfl (lv_at hl 0 rfl) ?_
  refine zci (wr := []) (va_runV (As := []) (rest := []) ⟨hx, hb, hml, hown, hts⟩ (c_X6_compared_0 l D cI cJ h m0 m1 m2 m4 m9 m10 m11 m13 m16 m17 m18 m19 i3 tn sp pt S ST L u T p c b1 q1 t1 (by first | rfl | assumption | omega) (by first | rfl | assumption | omega) (by first | rfl | assumption | omega) (by first | rfl | assumption | omega) (by first | rfl | assumption | omega) (by first | rfl | assumption | omega) (by first | rfl | assumption | omega) hR1 s.heap.size) (cwV 0 hts gX6_both_X6_compared rfl rfl rfl (by decide +kernel) ⟨Nat.le_of_ble_eq_true rfl, Nat.le_of_ble_eq_true rfl⟩) (zpV hK hN hZ hP hD hS hA [0, 1, 2] rfl (by decide) 0 rfl rfl rfl) rfl rfl hl.1 rfl (lv_room (Nat.le_of_ble_eq_true rfl)) dX6_both_1 ⟨Nat.zero_le _, Nat.zero_le _⟩) hP hD hS hA [0, 1, 2] [] rfl rfl (by decide) (by decide) (fun r_3 w_2 H locs h_1 hP hD hS => ?_)
  obtain ⟨c9_4, o9_5, ST9_6, hq9_7, hx9_8, rfl, rfl⟩ := h_1
  have hP : va_P D vwCl [(h, .inr (6, [.ref m0, .ref m1, .ref m2, .int i3, .ref m4, .int (nI q1), .int (nI o9_5), .int (nI c9_4), .int (nI u), .ref m9, .ref m10, .ref m11, .int (nI tn), .ref m13, .int (nI sp), .int (nI pt), .ref m16, .ref m17, .ref m18, .ref m19])), (m0, .inl (cI, 380, .inl S)), (m9, .inl (cI, 124, .inl ST9_6))] H := hP
  have hD : va_D AA [(h, .inr (6, [.ref m0, .ref m1, .ref m2, .int i3, .ref m4, .int (nI q1), .int (nI o9_5), .int (nI c9_4), .int (nI u), .ref m9, .ref m10, .ref m11, .int (nI tn), .ref m13, .int (nI sp), .int (nI pt), .ref m16, .ref m17, .ref m18, .ref m19])), (m0, .inl (cI, 380, .inl S)), (m9, .inl (cI, 124, .inl ST9_6))] := hD
  refine lv_if_ne (tgt := 9) hx hb dX6_both_4 (by decide) (fun c4_9 => ?_) (fun c4_9 => ?_)
  · have c4_9 := bI_n0.mp c4_9
    obtain ⟨hgd1, hge1, hgf1⟩ := hgc1 c4_9
    obtain ⟨he1, hE1, ho1⟩ := hx9_8 c4_9
    subst he1; subst hE1; subst ho1
    have hz := zLv_tt hR hR1 c4_9
    have L_9 : ∀ (fu : Nat) (f : Nat) (pv : Nat) (ta : zTks) (hn : f < fu) (hz : zct ta (zLp T L 1 (zLS T L (zQ T L u 5) 3) f pv) = (b, q, tl)) (hf : L - pv < f) (hpv : pv ≤ L) (hca : c + ta.length ≤ pv), ∀ (ls : Array Slot), lv_has ls 1 [(0, .ref h)] → ∀ (H : Heap) (locs : List Loc), va_P D vwCl [(h, .inr (6, [.ref m0, .ref m1, .ref m2, .int i3, .ref m4, .int (nI pv), .int (nI 0), .int (nI ((c + ta.length))), .int (nI u), .ref m9, .ref m10, .ref m11, .int (nI tn), .ref m13, .int (nI sp), .int (nI pt), .ref m16, .ref m17, .ref m18, .ref m19])), (m0, .inl (cI, 380, .inl S)), (m9, .inl (cI, 124, .inl (zap2 u ST c ta)))] H → va_D AA [(h, .inr (6, [.ref m0, .ref m1, .ref m2, .int i3, .ref m4, .int (nI pv), .int (nI 0), .int (nI ((c + ta.length))), .int (nI u), .ref m9, .ref m10, .ref m11, .int (nI tn), .ref m13, .int (nI sp), .int (nI pt), .ref m16, .ref m17, .ref m18, .ref m19])), (m0, .inl (cI, 380, .inl S)), (m9, .inl (cI, 124, .inl (zap2 u ST c ta)))] → va_S AA s.heap H locs → W pg l ev ({ frames := 35, cells := 0, slots := 0, locals := 738 } : Room) s mt args below meth cd H locs 0 0 QQ (F0 mt 9 ls []) := by
      intro fu
      induction fu with
      | zero =>
        intro  f pv ta  hn
        exact absurd hn (by omega)
      | succ fu ih_9 =>
        intro  f pv ta  hn hz hf hpv hca ls hl H locs hP hD hS
        obtain ⟨f1, rfl⟩ : ∃ f1, f = f1 + 1 := ⟨f - 1, by omega⟩
        refine lv_aload_n hx hb dX6_both_9 rfl (lv_at hl 0 rfl) ?_
        by_cases hpL : pv < L
        · refine zcsE (va_runV (As := []) (rest := []) ⟨hx, hb, hml, hown, hts⟩ (c_X6_look l D cI cJ h m0 m1 m2 m4 m9 m10 m11 m13 m16 m17 m18 m19 i3 tn sp pt S ST L u T pv ((c + ta.length)) 0 (by first | rfl | assumption | omega) (by first | rfl | assumption | omega) (by first | rfl | assumption | omega) (by first | rfl | assumption | omega) (by first | rfl | assumption | omega) (by omega) H.size) (cwV 0 hts gX6_both_X6_look rfl rfl rfl (by decide +kernel) ⟨Nat.le_of_ble_eq_true rfl, Nat.le_of_ble_eq_true rfl⟩) (zpV hK hN hZ hP hD hS hA [0, 1] rfl (by decide) 0 rfl rfl rfl) rfl rfl hl.1 rfl (lv_room (Nat.le_of_ble_eq_true rfl)) dX6_both_10 ⟨Nat.zero_le _, Nat.zero_le _⟩) ?_
          refine zrw (if_pos hpL) ?_
          refine lv_bipush (v := nI 38) hx hb dX6_both_13 (by decide) ?_
          refine lv_icmp_ne (tgt := 47) hx hb dX6_both_15 (by decide) (fun c15_10 => ?_) (fun c15_10 => ?_)
          · have c15_10 : ¬ ((T pv) = 38) := fun h9 => c15_10 ((nI_eq (a := T pv) (b := 38) (by have h91 := hT pv (by omega); omega) (by have h91 := hT pv (by omega); omega)).mpr h9)
            refine lv_iconst (v := nI 1) hx hb dX6_both_47 (by decide) ?_
            exact hret hP hD hS dX6_both_48 rfl (by obtain ⟨e1, e2, e3⟩ := zLe (f := f1) hz (fun h9 => by have h91 := h9.1; have h92 := zlv_1.mp h9.2; omega); subst e1; subst e2; subst e3; exact ⟨_, _, _, (by omega), fun _ => ⟨rfl, rfl, rfl⟩, (bI_t rfl).symm, rfl⟩)
          · have c15_10 : (T pv) = 38 := (nI_eq (a := T pv) (b := 38) (by have h91 := hT pv (by omega); omega) (by have h91 := hT pv (by omega); omega)).mp c15_10
            refine lv_aload_n hx hb dX6_both_18 rfl (lv_at hl 0 rfl) ?_
            refine lv_dup hx hb dX6_both_19 rfl ?_
            refine va_get (ci := 6) (v := .int (nI pv)) (C := RX6) (T := TX6) (N := 20) hx hb hts hin6 hown hK hP 0 rfl rfl 5 (by decide) (hts (.fieldLink RX6 61 "UpAllRoundModel" "at" "I") (List.mem_of_getElem? (i := 1) rfl)) (fun _ h9 => h9) rfl dX6_both_20 ?_
            refine lv_iconst (v := nI 1) hx hb dX6_both_23 (by decide) ?_
            refine lv_iadd hx hb dX6_both_24 ?_
            refine zrw (nI_add _ _) ?_
            refine va_put (ci := 6) (v := .int (nI (pv + 1))) (ty := .int) (C := RX6) (T := TX6) (N := 20) hx hb hts hin6 tyX6 tyX6_ok nmX6 hown hK hP hD hS 0 rfl rfl 5 (by decide) (hts (.fieldLink RX6 61 "UpAllRoundModel" "at" "I") (List.mem_of_getElem? (i := 1) rfl)) (fun _ h9 => h9) rfl (by decide +kernel) rfl rfl (Nat.le_of_ble_eq_true rfl) dX6_both_25 (fun H locs hP hD hS => ?_)
            have hP : va_P D vwCl [(h, .inr (6, [.ref m0, .ref m1, .ref m2, .int i3, .ref m4, .int (nI (pv + 1)), .int (nI 0), .int (nI ((c + ta.length))), .int (nI u), .ref m9, .ref m10, .ref m11, .int (nI tn), .ref m13, .int (nI sp), .int (nI pt), .ref m16, .ref m17, .ref m18, .ref m19])), (m0, .inl (cI, 380, .inl S)), (m9, .inl (cI, 124, .inl (zap2 u ST c ta)))] H := hP
            have hD : va_D AA [(h, .inr (6, [.ref m0, .ref m1, .ref m2, .int i3, .ref m4, .int (nI (pv + 1)), .int (nI 0), .int (nI ((c + ta.length))), .int (nI u), .ref m9, .ref m10, .ref m11, .int (nI tn), .ref m13, .int (nI sp), .int (nI pt), .ref m16, .ref m17, .ref m18, .ref m19])), (m0, .inl (cI, 380, .inl S)), (m9, .inl (cI, 124, .inl (zap2 u ST c ta)))] := hD
            refine lv_aload_n hx hb dX6_both_28 rfl (lv_at hl 0 rfl) ?_
            obtain ⟨b2, q2, t2, hR2⟩ : ∃ (b0 : Bool) (q0 : Nat) (t0 : zTks), zLS T L (zQ T L u 5) 3 (pv + 1) = (b0, q0, t0) := ⟨_, _, _, rfl⟩
            have hg2 := (zLS_gd (T := T) (zQ_gd (T := T) (L := L) (u := u) 5) 3) (pv + 1) (by omega)
            rw [hR2] at hg2
            obtain ⟨hga2, hgb2, hgc2⟩ : (pv + 1) ≤ q2 ∧ q2 ≤ L ∧ (b2 = true → (pv + 1) < q2 ∧ t2.length ≤ q2 - (pv + 1) ∧ zw1 t2) := hg2
            refine zci (wr := []) (va_runV (As := []) (rest := []) ⟨hx, hb, hml, hown, hts⟩ (c_X6_compared_0 l D cI cJ h m0 m1 m2 m4 m9 m10 m11 m13 m16 m17 m18 m19 i3 tn sp pt S (zap2 u ST c ta) L u T (pv + 1) ((c + ta.length)) b2 q2 t2 (by first | rfl | assumption | omega) (by first | rfl | assumption | omega) (by first | rfl | assumption | omega) (by first | rfl | assumption | omega) (by first | rfl | assumption | omega) (by omega) (by omega) hR2 H.size) (cwV 0 hts gX6_both_X6_compared rfl rfl rfl (by decide +kernel) ⟨Nat.le_of_ble_eq_true rfl, Nat.le_of_ble_eq_true rfl⟩) (zpV hK hN hZ hP hD hS hA [0, 1, 2] rfl (by decide) 0 rfl rfl rfl) rfl rfl hl.1 rfl (lv_room (Nat.le_of_ble_eq_true rfl)) dX6_both_29 ⟨Nat.zero_le _, Nat.zero_le _⟩) hP hD hS hA [0, 1, 2] [] rfl rfl (by decide) (by decide) (fun r_13 w_12 H locs h_11 hP hD hS => ?_)
            obtain ⟨c9_14, o9_15, ST9_16, hq9_17, hx9_18, rfl, rfl⟩ := h_11
            have hP : va_P D vwCl [(h, .inr (6, [.ref m0, .ref m1, .ref m2, .int i3, .ref m4, .int (nI q2), .int (nI o9_15), .int (nI c9_14), .int (nI u), .ref m9, .ref m10, .ref m11, .int (nI tn), .ref m13, .int (nI sp), .int (nI pt), .ref m16, .ref m17, .ref m18, .ref m19])), (m0, .inl (cI, 380, .inl S)), (m9, .inl (cI, 124, .inl ST9_16))] H := hP
            have hD : va_D AA [(h, .inr (6, [.ref m0, .ref m1, .ref m2, .int i3, .ref m4, .int (nI q2), .int (nI o9_15), .int (nI c9_14), .int (nI u), .ref m9, .ref m10, .ref m11, .int (nI tn), .ref m13, .int (nI sp), .int (nI pt), .ref m16, .ref m17, .ref m18, .ref m19])), (m0, .inl (cI, 380, .inl S)), (m9, .inl (cI, 124, .inl ST9_16))] := hD
            refine lv_if_ne (tgt := 37) hx hb dX6_both_32 (by decide) (fun c32_19 => ?_) (fun c32_19 => ?_)
            · have c32_19 := bI_n0.mp c32_19
              obtain ⟨hgd2, hge2, hgf2⟩ := hgc2 c32_19
              obtain ⟨he2, hE2, ho2⟩ := hx9_18 c32_19
              subst he2; subst hE2; subst ho2
              refine lv_aload_n hx hb dX6_both_37 rfl (lv_at hl 0 rfl) ?_
              refine lv_iconst (v := nI 3) hx hb dX6_both_38 (by decide) ?_
              refine lv_bipush (v := nI 38) hx hb dX6_both_39 (by decide) ?_
              refine zrw (congrArg nI (show 38 = T pv by omega)) ?_
              refine zcv (wr := [(m0, .inl (cI, 380, .inl S))]) (va_runV (As := [.int (nI 3), .int (nI (T pv))]) (rest := []) ⟨hx, hb, hml, hown, hts⟩ (c_X6_step1 l D cI cJ h m0 m1 m2 m4 m9 m10 m11 m13 m16 m17 m18 m19 i3 tn sp pt u q2 0 ((c + ta.length + t2.length)) (zap2 u (zap2 u ST c ta) (c + ta.length) t2) 3 (nI (T pv)) (by omega) H.size) (cwV 2 hts gX6_both_X6_step1 rfl rfl rfl (by decide +kernel) ⟨Nat.le_of_ble_eq_true rfl, Nat.le_of_ble_eq_true rfl⟩) (zpV hK hN hZ hP hD hS hA [0, 2] rfl (by decide) 0 rfl rfl rfl) rfl rfl hl.1 rfl (lv_room (Nat.le_of_ble_eq_true rfl)) dX6_both_41 ⟨Nat.zero_le _, Nat.zero_le _⟩) hP hD hS hA [0, 2] [1] rfl rfl (by decide) (by decide) (fun w_21 H locs h_20 hP hD hS => ?_)
              obtain rfl := h_20
              have hP : va_P D vwCl [(m0, .inl (cI, 380, .inl S)), (h, .inr (6, [.ref m0, .ref m1, .ref m2, .int i3, .ref m4, .int (nI q2), .int (nI 0), .int (nI ((((c + ta.length + t2.length)) + 1))), .int (nI u), .ref m9, .ref m10, .ref m11, .int (nI tn), .ref m13, .int (nI sp), .int (nI pt), .ref m16, .ref m17, .ref m18, .ref m19])), (m9, .inl (cI, 124, .inl ((upd (upd (zap2 u (zap2 u ST c ta) (c + ta.length) t2) (2 * ((c + ta.length + t2.length))) (nI 3)) (2 * ((c + ta.length + t2.length)) + 1) (nI (T pv))))))] H := hP
              have hD : va_D AA [(m0, .inl (cI, 380, .inl S)), (h, .inr (6, [.ref m0, .ref m1, .ref m2, .int i3, .ref m4, .int (nI q2), .int (nI 0), .int (nI ((((c + ta.length + t2.length)) + 1))), .int (nI u), .ref m9, .ref m10, .ref m11, .int (nI tn), .ref m13, .int (nI sp), .int (nI pt), .ref m16, .ref m17, .ref m18, .ref m19])), (m9, .inl (cI, 124, .inl ((upd (upd (zap2 u (zap2 u ST c ta) (c + ta.length) t2) (2 * ((c + ta.length + t2.length))) (nI 3)) (2 * ((c + ta.length + t2.length)) + 1) (nI (T pv))))))] := hD
              refine lv_goto (tgt := 9) hx hb dX6_both_44 (by decide) ?_
              rw [zap23, zlen1 (t := (3, T pv))] at hP hD
              exact ih_9   f1 q2 ((ta ++ (t2 ++ [(3, T pv)]))) (by omega) (zLt (by decide) hz ⟨by omega, zlv_1.mpr (by omega)⟩ hR2 (by assumption)) (by omega) (by omega) (by rw [← zlen1]; omega) ls (lv_sub hl [0] rfl) H locs (hP.sub [1, 0, 2] rfl) (hD.sub [1, 0, 2] (by decide) rfl) hS
            · have c32_19 := bI_0.mp c32_19
              refine lv_iconst (v := nI 0) hx hb dX6_both_35 (by decide) ?_
              exact hret hP hD hS dX6_both_36 rfl (by obtain ⟨e1, e2⟩ := zLf hz ⟨by omega, zlv_1.mpr (by omega)⟩ hR2 (by assumption); subst e1; subst e2; exact ⟨_, _, _, hq9_17, fun h9 => (by cases h9), (bI_f (by decide)).symm, rfl⟩)
        · refine zcsE (va_runV (As := []) (rest := []) ⟨hx, hb, hml, hown, hts⟩ (c_X6_look l D cI cJ h m0 m1 m2 m4 m9 m10 m11 m13 m16 m17 m18 m19 i3 tn sp pt S ST L u T pv ((c + ta.length)) 0 (by first | rfl | assumption | omega) (by first | rfl | assumption | omega) (by first | rfl | assumption | omega) (by first | rfl | assumption | omega) (by first | rfl | assumption | omega) (by omega) H.size) (cwV 0 hts gX6_both_X6_look rfl rfl rfl (by decide +kernel) ⟨Nat.le_of_ble_eq_true rfl, Nat.le_of_ble_eq_true rfl⟩) (zpV hK hN hZ hP hD hS hA [0, 1] rfl (by decide) 0 rfl rfl rfl) rfl rfl hl.1 rfl (lv_room (Nat.le_of_ble_eq_true rfl)) dX6_both_10 ⟨Nat.zero_le _, Nat.zero_le _⟩) ?_
          refine zrw (if_neg hpL) ?_
          refine lv_bipush (v := nI 38) hx hb dX6_both_13 (by decide) ?_
          refine lv_icmp_ne (tgt := 47) hx hb dX6_both_15 (by decide) (fun c15_22 => ?_) (fun c15_22 => ?_)
          · refine lv_iconst (v := nI 1) hx hb dX6_both_47 (by decide) ?_
            exact hret hP hD hS dX6_both_48 rfl (by obtain ⟨e1, e2, e3⟩ := zLe (f := f1) hz (fun h9 => by have h91 := h9.1; have h92 := zlv_1.mp h9.2; omega); subst e1; subst e2; subst e3; exact ⟨_, _, _, (by omega), fun _ => ⟨rfl, rfl, rfl⟩, (bI_t rfl).symm, rfl⟩)
          · exact absurd c15_22 (by decide)
    exact L_9 62  61 q1 t1 (by omega) hz (by omega) (by omega) (by omega) ls (lv_sub hl [0] rfl) _ _ hP hD hS
  · have c4_9 := bI_0.mp c4_9
    refine lv_iconst (v := nI 0) hx hb dX6_both_7 (by decide) ?_
    exact hret hP hD hS dX6_both_8 rfl (by obtain ⟨e1, e2⟩ := zLv_ff hR hR1 (by assumption); subst e1; subst e2; exact ⟨_, _, _, hq9_7, fun h9 => (by cases h9), (bI_f (by decide)).symm, rfl⟩)
set_option maxHeartbeats 4000000 in
set_option maxRecDepth 100000 in
theorem c_X6_whole_0 (l : Launch) (D : va_G) (cI cJ : ClassId) (h : Nat) (m0 : Nat) (m1 : Nat) (m2 : Nat) (m4 : Nat) (m9 : Nat) (m10 : Nat) (m11 : Nat) (m13 : Nat) (m16 : Nat) (m17 : Nat) (m18 : Nat) (m19 : Nat) (i3 : Int32) (tn : Nat) (sp : Nat) (pt : Nat) (S : Nat → Int32) (ST : Nat → Int32) (L : Nat) (u : Nat) (T : Nat → Nat) (p : Nat) (c : Nat) (b : Bool) (q : Nat) (tl : zTks) (hL : L ≤ 60) (hu1 : u ≤ 1) (hT : ∀ i, i < L → T i < 256) (htb : ∀ i, i < L → S (296 + i) = nI (T i)) (hS4 : S 4 = nI L) (hp : p ≤ L) (hcp : c ≤ p) (hR : zLS T L (zQ T L u 5) 5 p = (b, q, tl)) : zMi l yX6_whole wsX6_whole ({ frames := 36, cells := 0, slots := 0, locals := 758 } : Room) D [(cI, .int), (cJ, .array .int)] [.ref h] [(h, .inr (6, [.ref m0, .ref m1, .ref m2, .int i3, .ref m4, .int (nI p), .int (nI 0), .int (nI c), .int (nI u), .ref m9, .ref m10, .ref m11, .int (nI tn), .ref m13, .int (nI sp), .int (nI pt), .ref m16, .ref m17, .ref m18, .ref m19])), (m0, .inl (cI, 380, .inl S)), (m9, .inl (cI, 124, .inl ST))] (fun r w => ∃ (c9 o9 : Nat) (ST9 : Nat → Int32), c9 ≤ q ∧ (b = true → c9 = c + tl.length ∧ ST9 = zap2 u ST c tl ∧ o9 = 0) ∧ r = bI (b = true) ∧ w = [(h, .inr (6, [.ref m0, .ref m1, .ref m2, .int i3, .ref m4, .int (nI q), .int (nI o9), .int (nI c9), .int (nI u), .ref m9, .ref m10, .ref m11, .int (nI tn), .ref m13, .int (nI sp), .int (nI pt), .ref m16, .ref m17, .ref m18, .ref m19])), (m0, .inl (cI, 380, .inl S)), (m9, .inl (cI, 124, .inl ST9))]) := by
  refine zMi.start (cc := cX6_whole) (maxL := 1) (rt := .boolean) (by first | decide | decide +kernel) rfl (Nat.le_of_ble_eq_true rfl) ?_
  intro pg ev s mt args below meth cd ls AA QQ ⟨hx, hb, hml, hr, hlocks, hown, hts, hK, hN, hZ, hP, hD, hA, hS, hl⟩ hret
  have hown : s.vm.findClass RX6 = some mt.cls := hown
  have hl : lv_has ls 1 [(0, .ref h)] := hl
  have hin6 : ∀ w ∈ wsX60, w ∈ wsX6_whole := fun w h => List.mem_cons_of_mem _ (List.mem_append_right _ (h))
  have hR : zLv T L 0 (zLS T L (zQ T L u 5) 4) p = (b, q, tl) := hR
  obtain ⟨b1, q1, t1, hR1⟩ : ∃ (b0 : Bool) (q0 : Nat) (t0 : zTks), zLS T L (zQ T L u 5) 4 p = (b0, q0, t0) := ⟨_, _, _, rfl⟩
  have hg1 := (zLS_gd (T := T) (zQ_gd (T := T) (L := L) (u := u) 5) 4) p (by omega)
  rw [hR1] at hg1
  obtain ⟨hga1, hgb1, hgc1⟩ : p ≤ q1 ∧ q1 ≤ L ∧ (b1 = true → p < q1 ∧ t1.length ≤ q1 - p ∧ zw1 t1) := hg1
  refine lv_aload_n hx hb dX6_whole_0 rfl (lv_at hl 0 rfl) ?_
  refine zci (wr := []) (va_runV (As := []) (rest := []) ⟨hx, hb, hml, hown, hts⟩ (c_X6_both_0 l D cI cJ h m0 m1 m2 m4 m9 m10 m11 m13 m16 m17 m18 m19 i3 tn sp pt S ST L u T p c b1 q1 t1 (by first | rfl | assumption | omega) (by first | rfl | assumption | omega) (by first | rfl | assumption | omega) (by first | rfl | assumption | omega) (by first | rfl | assumption | omega) (by first | rfl | assumption | omega) (by first | rfl | assumption | omega) hR1 s.heap.size) (cwV 0 hts gX6_whole_X6_both rfl rfl rfl (by decide +kernel) ⟨Nat.le_of_ble_eq_true rfl, Nat.le_of_ble_eq_true rfl⟩) (zpV hK hN hZ hP hD hS hA [0, 1, 2] rfl (by decide) 0 rfl rfl rfl) rfl rfl hl.1 rfl (lv_room (Nat.le_of_ble_eq_true rfl)) dX6_whole_1 ⟨Nat.zero_le _, Nat.zero_le _⟩) hP hD hS hA [0, 1, 2] [] rfl rfl (by decide) (by decide) (fun r_3 w_2 H locs h_1 hP hD hS => ?_)
  obtain ⟨c9_4, o9_5, ST9_6, hq9_7, hx9_8, rfl, rfl⟩ := h_1
  have hP : va_P D vwCl [(h, .inr (6, [.ref m0, .ref m1, .ref m2, .int i3, .ref m4, .int (nI q1), .int (nI o9_5), .int (nI c9_4), .int (nI u), .ref m9, .ref m10, .ref m11, .int (nI tn), .ref m13, .int (nI sp), .int (nI pt), .ref m16, .ref m17, .ref m18, .ref m19])), (m0, .inl (cI, 380, .inl S)), (m9, .inl (cI, 124, .inl ST9_6))] H := hP
  have hD : va_D AA [(h, .inr (6, [.ref m0, .ref m1, .ref m2, .int i3, .ref m4, .int (nI q1), .int (nI o9_5), .int (nI c9_4), .int (nI u), .ref m9, .ref m10, .ref m11, .int (nI tn), .ref m13, .int (nI sp), .int (nI pt), .ref m16, .ref m17, .ref m18, .ref m19])), (m0, .inl (cI, 380, .inl S)), (m9, .inl (cI, 124, .inl ST9_6))] := hD
  refine lv_if_ne (tgt := 9) hx hb dX6_whole_4 (by decide) (fun c4_9 => ?_) (fun c4_9 => ?_)
  · have c4_9 := bI_n0.mp c4_9
    obtain ⟨hgd1, hge1, hgf1⟩ := hgc1 c4_9
    obtain ⟨he1, hE1, ho1⟩ := hx9_8 c4_9
    subst he1; subst hE1; subst ho1
    have hz := zLv_tt hR hR1 c4_9
    have L_9 : ∀ (fu : Nat) (f : Nat) (pv : Nat) (ta : zTks) (hn : f < fu) (hz : zct ta (zLp T L 0 (zLS T L (zQ T L u 5) 4) f pv) = (b, q, tl)) (hf : L - pv < f) (hpv : pv ≤ L) (hca : c + ta.length ≤ pv), ∀ (ls : Array Slot), lv_has ls 1 [(0, .ref h)] → ∀ (H : Heap) (locs : List Loc), va_P D vwCl [(h, .inr (6, [.ref m0, .ref m1, .ref m2, .int i3, .ref m4, .int (nI pv), .int (nI 0), .int (nI ((c + ta.length))), .int (nI u), .ref m9, .ref m10, .ref m11, .int (nI tn), .ref m13, .int (nI sp), .int (nI pt), .ref m16, .ref m17, .ref m18, .ref m19])), (m0, .inl (cI, 380, .inl S)), (m9, .inl (cI, 124, .inl (zap2 u ST c ta)))] H → va_D AA [(h, .inr (6, [.ref m0, .ref m1, .ref m2, .int i3, .ref m4, .int (nI pv), .int (nI 0), .int (nI ((c + ta.length))), .int (nI u), .ref m9, .ref m10, .ref m11, .int (nI tn), .ref m13, .int (nI sp), .int (nI pt), .ref m16, .ref m17, .ref m18, .ref m19])), (m0, .inl (cI, 380, .inl S)), (m9, .inl (cI, 124, .inl (zap2 u ST c ta)))] → va_S AA s.heap H locs → W pg l ev ({ frames := 36, cells := 0, slots := 0, locals := 758 } : Room) s mt args below meth cd H locs 0 0 QQ (F0 mt 9 ls []) := by
      intro fu
      induction fu with
      | zero =>
        intro  f pv ta  hn
        exact absurd hn (by omega)
      | succ fu ih_9 =>
        intro  f pv ta  hn hz hf hpv hca ls hl H locs hP hD hS
        obtain ⟨f1, rfl⟩ : ∃ f1, f = f1 + 1 := ⟨f - 1, by omega⟩
        refine lv_aload_n hx hb dX6_whole_9 rfl (lv_at hl 0 rfl) ?_
        by_cases hpL : pv < L
        · refine zcsE (va_runV (As := []) (rest := []) ⟨hx, hb, hml, hown, hts⟩ (c_X6_look l D cI cJ h m0 m1 m2 m4 m9 m10 m11 m13 m16 m17 m18 m19 i3 tn sp pt S ST L u T pv ((c + ta.length)) 0 (by first | rfl | assumption | omega) (by first | rfl | assumption | omega) (by first | rfl | assumption | omega) (by first | rfl | assumption | omega) (by first | rfl | assumption | omega) (by omega) H.size) (cwV 0 hts gX6_whole_X6_look rfl rfl rfl (by decide +kernel) ⟨Nat.le_of_ble_eq_true rfl, Nat.le_of_ble_eq_true rfl⟩) (zpV hK hN hZ hP hD hS hA [0, 1] rfl (by decide) 0 rfl rfl rfl) rfl rfl hl.1 rfl (lv_room (Nat.le_of_ble_eq_true rfl)) dX6_whole_10 ⟨Nat.zero_le _, Nat.zero_le _⟩) ?_
          refine zrw (if_pos hpL) ?_
          refine lv_bipush (v := nI 124) hx hb dX6_whole_13 (by decide) ?_
          refine lv_icmp_ne (tgt := 47) hx hb dX6_whole_15 (by decide) (fun c15_10 => ?_) (fun c15_10 => ?_)
          · have c15_10 : ¬ ((T pv) = 124) := fun h9 => c15_10 ((nI_eq (a := T pv) (b := 124) (by have h91 := hT pv (by omega); omega) (by have h91 := hT pv (by omega); omega)).mpr h9)
            refine lv_iconst (v := nI 1) hx hb dX6_whole_47 (by decide) ?_
            exact hret hP hD hS dX6_whole_48 rfl (by obtain ⟨e1, e2, e3⟩ := zLe (f := f1) hz (fun h9 => by have h91 := h9.1; have h92 := zlv_0.mp h9.2; omega); subst e1; subst e2; subst e3; exact ⟨_, _, _, (by omega), fun _ => ⟨rfl, rfl, rfl⟩, (bI_t rfl).symm, rfl⟩)
          · have c15_10 : (T pv) = 124 := (nI_eq (a := T pv) (b := 124) (by have h91 := hT pv (by omega); omega) (by have h91 := hT pv (by omega); omega)).mp c15_10
            refine lv_aload_n hx hb dX6_whole_18 rfl (lv_at hl 0 rfl) ?_
            refine lv_dup hx hb dX6_whole_19 rfl ?_
            refine va_get (ci := 6) (v := .int (nI pv)) (C := RX6) (T := TX6) (N := 20) hx hb hts hin6 hown hK hP 0 rfl rfl 5 (by decide) (hts (.fieldLink RX6 61 "UpAllRoundModel" "at" "I") (List.mem_of_getElem? (i := 1) rfl)) (fun _ h9 => h9) rfl dX6_whole_20 ?_
            refine lv_iconst (v := nI 1) hx hb dX6_whole_23 (by decide) ?_
            refine lv_iadd hx hb dX6_whole_24 ?_
            refine zrw (nI_add _ _) ?_
            refine va_put (ci := 6) (v := .int (nI (pv + 1))) (ty := .int) (C := RX6) (T := TX6) (N := 20) hx hb hts hin6 tyX6 tyX6_ok nmX6 hown hK hP hD hS 0 rfl rfl 5 (by decide) (hts (.fieldLink RX6 61 "UpAllRoundModel" "at" "I") (List.mem_of_getElem? (i := 1) rfl)) (fun _ h9 => h9) rfl (by decide +kernel) rfl rfl (Nat.le_of_ble_eq_true rfl) dX6_whole_25 (fun H locs hP hD hS => ?_)
            have hP : va_P D vwCl [(h, .inr (6, [.ref m0, .ref m1, .ref m2, .int i3, .ref m4, .int (nI (pv + 1)), .int (nI 0), .int (nI ((c + ta.length))), .int (nI u), .ref m9, .ref m10, .ref m11, .int (nI tn), .ref m13, .int (nI sp), .int (nI pt), .ref m16, .ref m17, .ref m18, .ref m19])), (m0, .inl (cI, 380, .inl S)), (m9, .inl (cI, 124, .inl (zap2 u ST c ta)))] H := hP
            have hD : va_D AA [(h, .inr (6, [.ref m0, .ref m1, .ref m2, .int i3, .ref m4, .int (nI (pv + 1)), .int (nI 0), .int (nI ((c + ta.length))), .int (nI u), .ref m9, .ref m10, .ref m11, .int (nI tn), .ref m13, .int (nI sp), .int (nI pt), .ref m16, .ref m17, .ref m18, .ref m19])), (m0, .inl (cI, 380, .inl S)), (m9, .inl (cI, 124, .inl (zap2 u ST c ta)))] := hD
            refine lv_aload_n hx hb dX6_whole_28 rfl (lv_at hl 0 rfl) ?_
            obtain ⟨b2, q2, t2, hR2⟩ : ∃ (b0 : Bool) (q0 : Nat) (t0 : zTks), zLS T L (zQ T L u 5) 4 (pv + 1) = (b0, q0, t0) := ⟨_, _, _, rfl⟩
            have hg2 := (zLS_gd (T := T) (zQ_gd (T := T) (L := L) (u := u) 5) 4) (pv + 1) (by omega)
            rw [hR2] at hg2
            obtain ⟨hga2, hgb2, hgc2⟩ : (pv + 1) ≤ q2 ∧ q2 ≤ L ∧ (b2 = true → (pv + 1) < q2 ∧ t2.length ≤ q2 - (pv + 1) ∧ zw1 t2) := hg2
            refine zci (wr := []) (va_runV (As := []) (rest := []) ⟨hx, hb, hml, hown, hts⟩ (c_X6_both_0 l D cI cJ h m0 m1 m2 m4 m9 m10 m11 m13 m16 m17 m18 m19 i3 tn sp pt S (zap2 u ST c ta) L u T (pv + 1) ((c + ta.length)) b2 q2 t2 (by first | rfl | assumption | omega) (by first | rfl | assumption | omega) (by first | rfl | assumption | omega) (by first | rfl | assumption | omega) (by first | rfl | assumption | omega) (by omega) (by omega) hR2 H.size) (cwV 0 hts gX6_whole_X6_both rfl rfl rfl (by decide +kernel) ⟨Nat.le_of_ble_eq_true rfl, Nat.le_of_ble_eq_true rfl⟩) (zpV hK hN hZ hP hD hS hA [0, 1, 2] rfl (by decide) 0 rfl rfl rfl) rfl rfl hl.1 rfl (lv_room (Nat.le_of_ble_eq_true rfl)) dX6_whole_29 ⟨Nat.zero_le _, Nat.zero_le _⟩) hP hD hS hA [0, 1, 2] [] rfl rfl (by decide) (by decide) (fun r_13 w_12 H locs h_11 hP hD hS => ?_)
            obtain ⟨c9_14, o9_15, ST9_16, hq9_17, hx9_18, rfl, rfl⟩ := h_11
            have hP : va_P D vwCl [(h, .inr (6, [.ref m0, .ref m1, .ref m2, .int i3, .ref m4, .int (nI q2), .int (nI o9_15), .int (nI c9_14), .int (nI u), .ref m9, .ref m10, .ref m11, .int (nI tn), .ref m13, .int (nI sp), .int (nI pt), .ref m16, .ref m17, .ref m18, .ref m19])), (m0, .inl (cI, 380, .inl S)), (m9, .inl (cI, 124, .inl ST9_16))] H := hP
            have hD : va_D AA [(h, .inr (6, [.ref m0, .ref m1, .ref m2, .int i3, .ref m4, .int (nI q2), .int (nI o9_15), .int (nI c9_14), .int (nI u), .ref m9, .ref m10, .ref m11, .int (nI tn), .ref m13, .int (nI sp), .int (nI pt), .ref m16, .ref m17, .ref m18, .ref m19])), (m0, .inl (cI, 380, .inl S)), (m9, .inl (cI, 124, .inl ST9_16))] := hD
            refine lv_if_ne (tgt := 37) hx hb dX6_whole_32 (by decide) (fun c32_19 => ?_) (fun c32_19 => ?_)
            · have c32_19 := bI_n0.mp c32_19
              obtain ⟨hgd2, hge2, hgf2⟩ := hgc2 c32_19
              obtain ⟨he2, hE2, ho2⟩ := hx9_18 c32_19
              subst he2; subst hE2; subst ho2
              refine lv_aload_n hx hb dX6_whole_37 rfl (lv_at hl 0 rfl) ?_
              refine lv_iconst (v := nI 3) hx hb dX6_whole_38 (by decide) ?_
              refine lv_bipush (v := nI 124) hx hb dX6_whole_39 (by decide) ?_
              refine zrw (congrArg nI (show 124 = T pv by omega)) ?_
              refine zcv (wr := [(m0, .inl (cI, 380, .inl S))]) (va_runV (As := [.int (nI 3), .int (nI (T pv))]) (rest := []) ⟨hx, hb, hml, hown, hts⟩ (c_X6_step1 l D cI cJ h m0 m1 m2 m4 m9 m10 m11 m13 m16 m17 m18 m19 i3 tn sp pt u q2 0 ((c + ta.length + t2.length)) (zap2 u (zap2 u ST c ta) (c + ta.length) t2) 3 (nI (T pv)) (by omega) H.size) (cwV 2 hts gX6_whole_X6_step1 rfl rfl rfl (by decide +kernel) ⟨Nat.le_of_ble_eq_true rfl, Nat.le_of_ble_eq_true rfl⟩) (zpV hK hN hZ hP hD hS hA [0, 2] rfl (by decide) 0 rfl rfl rfl) rfl rfl hl.1 rfl (lv_room (Nat.le_of_ble_eq_true rfl)) dX6_whole_41 ⟨Nat.zero_le _, Nat.zero_le _⟩) hP hD hS hA [0, 2] [1] rfl rfl (by decide) (by decide) (fun w_21 H locs h_20 hP hD hS => ?_)
              obtain rfl := h_20
              have hP : va_P D vwCl [(m0, .inl (cI, 380, .inl S)), (h, .inr (6, [.ref m0, .ref m1, .ref m2, .int i3, .ref m4, .int (nI q2), .int (nI 0), .int (nI ((((c + ta.length + t2.length)) + 1))), .int (nI u), .ref m9, .ref m10, .ref m11, .int (nI tn), .ref m13, .int (nI sp), .int (nI pt), .ref m16, .ref m17, .ref m18, .ref m19])), (m9, .inl (cI, 124, .inl ((upd (upd (zap2 u (zap2 u ST c ta) (c + ta.length) t2) (2 * ((c + ta.length + t2.length))) (nI 3)) (2 * ((c + ta.length + t2.length)) + 1) (nI (T pv))))))] H := hP
              have hD : va_D AA [(m0, .inl (cI, 380, .inl S)), (h, .inr (6, [.ref m0, .ref m1, .ref m2, .int i3, .ref m4, .int (nI q2), .int (nI 0), .int (nI ((((c + ta.length + t2.length)) + 1))), .int (nI u), .ref m9, .ref m10, .ref m11, .int (nI tn), .ref m13, .int (nI sp), .int (nI pt), .ref m16, .ref m17, .ref m18, .ref m19])), (m9, .inl (cI, 124, .inl ((upd (upd (zap2 u (zap2 u ST c ta) (c + ta.length) t2) (2 * ((c + ta.length + t2.length))) (nI 3)) (2 * ((c + ta.length + t2.length)) + 1) (nI (T pv))))))] := hD
              refine lv_goto (tgt := 9) hx hb dX6_whole_44 (by decide) ?_
              rw [zap23, zlen1 (t := (3, T pv))] at hP hD
              exact ih_9   f1 q2 ((ta ++ (t2 ++ [(3, T pv)]))) (by omega) (zLt (by decide) hz ⟨by omega, zlv_0.mpr (by omega)⟩ hR2 (by assumption)) (by omega) (by omega) (by rw [← zlen1]; omega) ls (lv_sub hl [0] rfl) H locs (hP.sub [1, 0, 2] rfl) (hD.sub [1, 0, 2] (by decide) rfl) hS
            · have c32_19 := bI_0.mp c32_19
              refine lv_iconst (v := nI 0) hx hb dX6_whole_35 (by decide) ?_
              exact hret hP hD hS dX6_whole_36 rfl (by obtain ⟨e1, e2⟩ := zLf hz ⟨by omega, zlv_0.mpr (by omega)⟩ hR2 (by assumption); subst e1; subst e2; exact ⟨_, _, _, hq9_17, fun h9 => (by cases h9), (bI_f (by decide)).symm, rfl⟩)
        · refine zcsE (va_runV (As := []) (rest := []) ⟨hx, hb, hml, hown, hts⟩ (c_X6_look l D cI cJ h m0 m1 m2 m4 m9 m10 m11 m13 m16 m17 m18 m19 i3 tn sp pt S ST L u T pv ((c + ta.length)) 0 (by first | rfl | assumption | omega) (by first | rfl | assumption | omega) (by first | rfl | assumption | omega) (by first | rfl | assumption | omega) (by first | rfl | assumption | omega) (by omega) H.size) (cwV 0 hts gX6_whole_X6_look rfl rfl rfl (by decide +kernel) ⟨Nat.le_of_ble_eq_true rfl, Nat.le_of_ble_eq_true rfl⟩) (zpV hK hN hZ hP hD hS hA [0, 1] rfl (by decide) 0 rfl rfl rfl) rfl rfl hl.1 rfl (lv_room (Nat.le_of_ble_eq_true rfl)) dX6_whole_10 ⟨Nat.zero_le _, Nat.zero_le _⟩) ?_
          refine zrw (if_neg hpL) ?_
          refine lv_bipush (v := nI 124) hx hb dX6_whole_13 (by decide) ?_
          refine lv_icmp_ne (tgt := 47) hx hb dX6_whole_15 (by decide) (fun c15_22 => ?_) (fun c15_22 => ?_)
          · refine lv_iconst (v := nI 1) hx hb dX6_whole_47 (by decide) ?_
            exact hret hP hD hS dX6_whole_48 rfl (by obtain ⟨e1, e2, e3⟩ := zLe (f := f1) hz (fun h9 => by have h91 := h9.1; have h92 := zlv_0.mp h9.2; omega); subst e1; subst e2; subst e3; exact ⟨_, _, _, (by omega), fun _ => ⟨rfl, rfl, rfl⟩, (bI_t rfl).symm, rfl⟩)
          · exact absurd c15_22 (by decide)
    exact L_9 62  61 q1 t1 (by omega) hz (by omega) (by omega) (by omega) ls (lv_sub hl [0] rfl) _ _ hP hD hS
  · have c4_9 := bI_0.mp c4_9
    refine lv_iconst (v := nI 0) hx hb dX6_whole_7 (by decide) ?_
    exact hret hP hD hS dX6_whole_8 rfl (by obtain ⟨e1, e2⟩ := zLv_ff hR hR1 (by assumption); subst e1; subst e2; exact ⟨_, _, _, hq9_7, fun h9 => (by cases h9), (bI_f (by decide)).symm, rfl⟩)
