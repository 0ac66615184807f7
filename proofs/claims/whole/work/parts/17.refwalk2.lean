abbrev zPlap (d : zDt) (k c : Nat) : Nat → Prop := fun q => zPm d k 0 q c = zPm d k 0 0 c
def zo_lap (S E : Nat → Int32) (k : Nat) (d : zDt) (climber what : Int32) : zOut := if zin climber k ∧ zrg 0 1 what then (if zfind (zPlap d k climber.toNatClampNeg) 200 1 ≤ 200 then ((if what = nI 0 then nI (zfind (zPlap d k climber.toNatClampNeg) 200 1) else zGm d k 0 (zfind (zPlap d k climber.toNatClampNeg) 200 1) climber.toNatClampNeg - zGm d k 0 0 climber.toNatClampNeg), S, E) else zerrE 2 S E) else zerrE 1 S E
abbrev zPtog (d : zDt) (k : Nat) : Nat → Prop := fun q => ∀ o, o < k → zPm d k 0 q o = zPm d k 0 q 0
abbrev zPdis (d : zDt) (k : Nat) : Nat → Prop := fun q => ¬ ∀ j, j < k → ∀ o, o < j → ¬ (zPm d k 0 q j = zPm d k 0 q o ∧ ¬ zGm d k 0 q j = zGm d k 0 q o)
def zo_together (S E : Nat → Int32) (k : Nat) (d : zDt) : zOut := if k = 0 then zerrE 3 S E else if zfind (zPtog d k) 501 0 ≤ 500 then (nI (zfind (zPtog d k) 501 0), S, E) else zerrE 2 S E
def zo_dispute (S E : Nat → Int32) (k : Nat) (d : zDt) : zOut := if zfind (zPdis d k) 201 0 ≤ 200 then (nI (zfind (zPdis d k) 201 0), S, E) else zerrE 2 S E
theorem zPtog_e {S : Nat → Int32} {d : zDt} {k q : Nat} (h0 : 0 < k) : (∀ o, o < k → zsm S d k 0 q (8 + 4 * o + 2) = zsm S d k 0 q (8 + 4 * 0 + 2)) ↔ zPtog d k q := by
  constructor
  · intro h o ho; have := h o ho; rwa [zsm_P ho, zsm_P h0] at this
  · intro h o ho; rw [zsm_P ho, zsm_P h0]; exact h o ho
theorem zPdis_e {S : Nat → Int32} {d : zDt} {k q : Nat} : (¬ ∀ j, j < k → ∀ o, o < j → ¬ (zsm S d k 0 q (8 + 4 * j + 2) = zsm S d k 0 q (8 + 4 * o + 2) ∧ ¬ zsm S d k 0 q (8 + 4 * j + 3) = zsm S d k 0 q (8 + 4 * o + 3))) ↔ zPdis d k q := by
  refine not_congr ⟨fun h j hj o ho => ?_, fun h j hj o ho => ?_⟩
  · have := h j hj o ho; rwa [zsm_P hj, zsm_P (show o < k by omega), zsm_G hj, zsm_G (show o < k by omega)] at this
  · rw [zsm_P hj, zsm_P (show o < k by omega), zsm_G hj, zsm_G (show o < k by omega)]; exact h j hj o ho
def zbs (d : zDt) (k len : Nat) (tk : zTk) (c : Nat) : Nat → Int32 × Int32 × Int32
  | 0 => (-1, 0, 0)
  | q + 1 => if (zbs d k len tk c q).1 < zwor len tk (zPm d k 0 q c) (zGm d k 0 q c) (nI c) then (zwor len tk (zPm d k 0 q c) (zGm d k 0 q c) (nI c), nI q, zPm d k 0 q c) else zbs d k len tk c q
theorem zbs_p {d : zDt} {k len : Nat} {tk : zTk} {c q : Nat} (h : (zbs d k len tk c q).1 < zwor len tk (zPm d k 0 q c) (zGm d k 0 q c) (nI c)) : zbs d k len tk c (q + 1) = (zwor len tk (zPm d k 0 q c) (zGm d k 0 q c) (nI c), nI q, zPm d k 0 q c) := if_pos h
theorem zbs_n {d : zDt} {k len : Nat} {tk : zTk} {c q : Nat} (h : ¬ (zbs d k len tk c q).1 < zwor len tk (zPm d k 0 q c) (zGm d k 0 q c) (nI c)) : zbs d k len tk c (q + 1) = zbs d k len tk c q := if_neg h
def zo_best (S E : Nat → Int32) (k : Nat) (d : zDt) (len : Nat) (tk : zTk) (climber v what : Int32) : zOut := if zin climber k ∧ zrg 0 100 v ∧ zrg 0 2 what then ((if what = nI 0 then (zbs d k len tk climber.toNatClampNeg (v.toNatClampNeg + 1)).1 else if what = nI 1 then (zbs d k len tk climber.toNatClampNeg (v.toNatClampNeg + 1)).2.1 else (zbs d k len tk climber.toNatClampNeg (v.toNatClampNeg + 1)).2.2), S, E) else zerrE 1 S E
set_option maxHeartbeats 4000000 in
set_option maxRecDepth 100000 in
theorem c_X6_lap (l : Launch) (D : va_G) (cI cJ : ClassId) (h : Nat) (hs : Nat) (hE : Nat) (fs : List Value) (S : Nat → Int32) (E : Nat → Int32) (n : Nat) (k : Nat) (hN9 : Nat) (hp : Nat) (hL : Nat) (NM : Nat → Int32) (PI : Nat → Int32) (L : Nat → Int32) (len0 : Nat) (tk0 : zTk) (mi : Nat) (climber : Int32) (what : Int32) (hf0 : fs[0]? = some (.ref hs)) (hf4 : fs[4]? = some (.ref hE)) (hn1 : S 1 = nI n) (hk6 : S 6 = nI k) (hn4 : 4 ≤ n) (hn14 : n ≤ 14) (hkle : k ≤ 6) (hf10 : fs[10]? = some (.ref hN9)) (hf11 : fs[11]? = some (.ref hp)) (hf2 : fs[2]? = some (.ref hL)) (htx0 : zTX S 0 len0 tk0) (hmi : S 0 = nI mi) (hok : zOK (zDS S n len0 tk0 mi) k) : zMi l yX6_lap wsX6_lap ({ frames := 6, cells := 0, slots := 0, locals := 141 } : Room) D [(cI, .int), (cJ, .array .int)] [.ref h, .int climber, .int what] [(h, .inr (6, fs)), (hs, .inl (cI, 380, .inl S)), (hE, .inl (cI, 7, .inl E)), (hN9, .inl (cI, 128, .inl NM)), (hp, .inl (cI, 64, .inl PI)), (hL, .inl (cI, 46, .inl L))] (fun r w => ∃ NM9 PI9 L9 : Nat → Int32, r = (zo_lap S E k (zDS S n len0 tk0 mi) climber what).1 ∧ w = [(h, .inr (6, fs)), (hs, .inl (cI, 380, .inl ((zo_lap S E k (zDS S n len0 tk0 mi) climber what).2.1))), (hE, .inl (cI, 7, .inl ((zo_lap S E k (zDS S n len0 tk0 mi) climber what).2.2))), (hN9, .inl (cI, 128, .inl NM9)), (hp, .inl (cI, 64, .inl PI9)), (hL, .inl (cI, 46, .inl L9))]) := by
  refine zMi.start (cc := cX6_lap) (maxL := 8) (rt := .int) (by first | decide | decide +kernel) rfl (Nat.le_of_ble_eq_true rfl) ?_
  intro pg ev s mt args below meth cd ls AA QQ ⟨hx, hb, hml, hr, hlocks, hown, hts, hK, hN, hZ, hP, hD, hA, hS, hl⟩ hret
  have hown : s.vm.findClass RX6 = some mt.cls := hown
  have hl : lv_has ls 8 [(0, .ref h), (1, .int climber), (2, .int what)] := hl
  have hin6 : ∀ w ∈ wsX60, w ∈ wsX6_lap := fun w h => List.mem_cons_of_mem _ (List.mem_append_right _ (h))
  refine lv_aload_n hx hb dX6_lap_0 rfl (lv_at hl 0 rfl) ?_
  refine lv_iload_n hx hb dX6_lap_1 rfl (lv_at hl 1 rfl) ?_
  refine zcsE (va_runV (As := [.int climber]) (rest := []) ⟨hx, hb, hml, hown, hts⟩ (c_X6_isClimber l D cI cJ h hs fs S k climber (by first | rfl | assumption | omega) (by first | rfl | assumption | omega) (by first | rfl | assumption | omega) s.heap.size) (cwV 1 hts gX6_lap_X6_isClimber rfl rfl rfl (by decide +kernel) ⟨Nat.le_of_ble_eq_true rfl, Nat.le_of_ble_eq_true rfl⟩) (zpV hK hN hZ hP hD hS hA [0, 1] rfl (by decide) 0 rfl rfl rfl) rfl rfl hl.1 rfl (lv_room (Nat.le_of_ble_eq_true rfl)) dX6_lap_2 ⟨Nat.zero_le _, Nat.zero_le _⟩) ?_
  refine lv_if_eq (tgt := 17) hx hb dX6_lap_5 (by decide) (fun c5_1 => ?_) (fun c5_1 => ?_)
  · have c5_1 := bI_0.mp c5_1
    refine lv_aload_n hx hb dX6_lap_17 rfl (lv_at hl 0 rfl) ?_
    refine lv_iconst (v := nI 1) hx hb dX6_lap_18 (by decide) ?_
    refine zci (wr := [(hs, .inl (cI, 380, .inl S)), (hN9, .inl (cI, 128, .inl NM)), (hp, .inl (cI, 64, .inl PI)), (hL, .inl (cI, 46, .inl L))]) (va_runV (As := [.int (nI 1)]) (rest := []) ⟨hx, hb, hml, hown, hts⟩ (c_X6_error l D cI cJ h hE fs E 1 (by first | rfl | assumption | omega) (by first | rfl | assumption | omega) s.heap.size) (cwV 1 hts gX6_lap_X6_error rfl rfl rfl (by decide +kernel) ⟨Nat.le_of_ble_eq_true rfl, Nat.le_of_ble_eq_true rfl⟩) (zpV hK hN hZ hP hD hS hA [0, 2] rfl (by decide) 0 rfl rfl rfl) rfl rfl hl.1 rfl (lv_room (Nat.le_of_ble_eq_true rfl)) dX6_lap_19 ⟨Nat.zero_le _, Nat.zero_le _⟩) hP hD hS hA [0, 2] [1, 3, 4, 5] rfl rfl (by decide) (by decide) (fun r_4 w_3 H locs h_2 hP hD hS => ?_)
    obtain ⟨rfl, rfl⟩ := h_2
    have hP : va_P D vwCl [(hs, .inl (cI, 380, .inl S)), (hN9, .inl (cI, 128, .inl NM)), (hp, .inl (cI, 64, .inl PI)), (hL, .inl (cI, 46, .inl L)), (h, .inr (6, fs)), (hE, .inl (cI, 7, .inl (upd E 1 (E 1 + nI 1))))] H := hP
    have hD : va_D AA [(hs, .inl (cI, 380, .inl S)), (hN9, .inl (cI, 128, .inl NM)), (hp, .inl (cI, 64, .inl PI)), (hL, .inl (cI, 46, .inl L)), (h, .inr (6, fs)), (hE, .inl (cI, 7, .inl (upd E 1 (E 1 + nI 1))))] := hD
    have hP := hP.sub (ws' := [(h, .inr (6, fs)), (hs, .inl (cI, 380, .inl S)), (hE, .inl (cI, 7, .inl (upd E 1 (E 1 + nI 1)))), (hN9, .inl (cI, 128, .inl NM)), (hp, .inl (cI, 64, .inl PI)), (hL, .inl (cI, 46, .inl L))]) [4, 0, 5, 1, 2, 3] rfl
    have hD := hD.sub (ws' := [(h, .inr (6, fs)), (hs, .inl (cI, 380, .inl S)), (hE, .inl (cI, 7, .inl (upd E 1 (E 1 + nI 1)))), (hN9, .inl (cI, 128, .inl NM)), (hp, .inl (cI, 64, .inl PI)), (hL, .inl (cI, 46, .inl L))]) [4, 0, 5, 1, 2, 3] (by decide) rfl
    exact hret hP hD hS dX6_lap_22 rfl (by rw [show zo_lap S E k (zDS S n len0 tk0 mi) climber what = zerrE 1 S E from if_neg (by intro h9; first | exact absurd h9.1 (by assumption) | exact absurd h9.2 (by assumption))]; exact ⟨_, _, _, rfl, rfl⟩)
  · have c5_1 := bI_n0.mp c5_1
    obtain ⟨j, h_j, rfl⟩ := zin_of c5_1 (by omega)
    refine lv_iload_n hx hb dX6_lap_8 rfl (lv_at hl 2 rfl) ?_
    refine lv_iconst (v := nI 0) hx hb dX6_lap_9 (by decide) ?_
    refine lv_iconst (v := nI 1) hx hb dX6_lap_10 (by decide) ?_
    refine zcsE (va_runS (As := [.int what, .int (nI 0), .int (nI 1)]) (rest := []) ⟨hx, hb, hml, hown, hts⟩ (d_X6_in l D cI cJ what (nI 0) (nI 1) 0 1 (by decide) (by decide) s.heap.size) (va_cwS 3 hts gX6_lap_X6_in rfl rfl rfl (by decide +kernel) ⟨Nat.le_of_ble_eq_true rfl, Nat.le_of_ble_eq_true rfl⟩) (zpS hK hN hZ hP hD hS hA [] rfl (by decide)) rfl rfl hl.1 rfl (lv_room (Nat.le_of_ble_eq_true rfl)) dX6_lap_11 ⟨Nat.zero_le _, Nat.zero_le _⟩) ?_
    refine lv_if_ne (tgt := 23) hx hb dX6_lap_14 (by decide) (fun c14_5 => ?_) (fun c14_5 => ?_)
    · have c14_5 := bI_n0.mp c14_5
      obtain ⟨w9, h_w9, rfl⟩ : ∃ q : Nat, q ≤ 1 ∧ what = nI q := zrg_of c14_5 (by decide)
      rcases (show w9 = 0 ∨ w9 = 1 from by omega) with h9 | h9
      · subst h9
        refine lv_aload_n hx hb dX6_lap_23 rfl (lv_at hl 0 rfl) ?_
        refine lv_iload_n hx hb dX6_lap_24 rfl (lv_at hl 1 rfl) ?_
        refine lv_iconst (v := nI 2) hx hb dX6_lap_25 (by decide) ?_
        refine zcsE (va_runV (As := [.int (nI j), .int (nI 2)]) (rest := []) ⟨hx, hb, hml, hown, hts⟩ (c_X6_its l D cI cJ h hs fs S j 2 (by first | rfl | assumption | omega) (by first | rfl | assumption | omega) s.heap.size) (cwV 2 hts gX6_lap_X6_its rfl rfl rfl (by decide +kernel) ⟨Nat.le_of_ble_eq_true rfl, Nat.le_of_ble_eq_true rfl⟩) (zpV hK hN hZ hP hD hS hA [0, 1] rfl (by decide) 0 rfl rfl rfl) rfl rfl hl.1 rfl (lv_room (Nat.le_of_ble_eq_true rfl)) dX6_lap_26 ⟨Nat.zero_le _, Nat.zero_le _⟩) ?_
        refine zrw (show S (8 + 4 * j + 2) = zPm (zDS S n len0 tk0 mi) k 0 0 j from by rw [zPm_start hok]; rfl) ?_
        refine lv_istore_n (lv' := [(3, .int (zPm (zDS S n len0 tk0 mi) k 0 0 j)), (0, .ref h), (1, .int (nI j)), (2, .int (nI 0))]) hx hb dX6_lap_29 rfl hl (by decide) rfl (fun ls hl => ?_)
        refine lv_aload_n hx hb dX6_lap_30 rfl (lv_at hl 1 rfl) ?_
        refine lv_iload_n hx hb dX6_lap_31 rfl (lv_at hl 2 rfl) ?_
        refine lv_iconst (v := nI 3) hx hb dX6_lap_32 (by decide) ?_
        refine zcsE (va_runV (As := [.int (nI j), .int (nI 3)]) (rest := []) ⟨hx, hb, hml, hown, hts⟩ (c_X6_its l D cI cJ h hs fs S j 3 (by first | rfl | assumption | omega) (by first | rfl | assumption | omega) s.heap.size) (cwV 2 hts gX6_lap_X6_its rfl rfl rfl (by decide +kernel) ⟨Nat.le_of_ble_eq_true rfl, Nat.le_of_ble_eq_true rfl⟩) (zpV hK hN hZ hP hD hS hA [0, 1] rfl (by decide) 0 rfl rfl rfl) rfl rfl hl.1 rfl (lv_room (Nat.le_of_ble_eq_true rfl)) dX6_lap_33 ⟨Nat.zero_le _, Nat.zero_le _⟩) ?_
        refine zrw (show S (8 + 4 * j + 3) = zGm (zDS S n len0 tk0 mi) k 0 0 j from by rw [zGm_start]; rfl) ?_
        refine lv_istore (lv' := [(4, .int (zGm (zDS S n len0 tk0 mi) k 0 0 j)), (3, .int (zPm (zDS S n len0 tk0 mi) k 0 0 j)), (0, .ref h), (1, .int (nI j)), (2, .int (nI 0))]) hx hb dX6_lap_36 hl (by decide) rfl (fun ls hl => ?_)
        refine lv_aload_n hx hb dX6_lap_38 rfl (lv_at hl 2 rfl) ?_
        refine zcv (wr := [(hE, .inl (cI, 7, .inl E)), (hN9, .inl (cI, 128, .inl NM)), (hp, .inl (cI, 64, .inl PI))]) (va_runV (As := []) (rest := []) ⟨hx, hb, hml, hown, hts⟩ (c_X6_layDown l D cI cJ h hs hL fs S L (by first | rfl | assumption | omega) (by first | rfl | assumption | omega) s.heap.size) (cwV 0 hts gX6_lap_X6_layDown rfl rfl rfl (by decide +kernel) ⟨Nat.le_of_ble_eq_true rfl, Nat.le_of_ble_eq_true rfl⟩) (zpV hK hN hZ hP hD hS hA [0, 1, 5] rfl (by decide) 0 rfl rfl rfl) rfl rfl hl.1 rfl (lv_room (Nat.le_of_ble_eq_true rfl)) dX6_lap_39 ⟨Nat.zero_le _, Nat.zero_le _⟩) hP hD hS hA [0, 1, 5] [2, 3, 4] rfl rfl (by decide) (by decide) (fun w_7 H locs h_6 hP hD hS => ?_)
        obtain rfl := h_6
        have hP : va_P D vwCl [(hE, .inl (cI, 7, .inl E)), (hN9, .inl (cI, 128, .inl NM)), (hp, .inl (cI, 64, .inl PI)), (h, .inr (6, fs)), (hs, .inl (cI, 380, .inl S)), (hL, .inl (cI, 46, .inl (zcp S L 46)))] H := hP
        have hD : va_D AA [(hE, .inl (cI, 7, .inl E)), (hN9, .inl (cI, 128, .inl NM)), (hp, .inl (cI, 64, .inl PI)), (h, .inr (6, fs)), (hs, .inl (cI, 380, .inl S)), (hL, .inl (cI, 46, .inl (zcp S L 46)))] := hD
        have hP := zPx (i := 4) (g := zsm S (zDS S n len0 tk0 mi) k 0 0) hP rfl (fun j _ => (congrFun (zsm_start hmi hok) j).symm)
        have hD := zDx (i := 4) (g := zsm S (zDS S n len0 tk0 mi) k 0 0) hD rfl
        have hP : va_P D vwCl [(hE, .inl (cI, 7, .inl E)), (hN9, .inl (cI, 128, .inl NM)), (hp, .inl (cI, 64, .inl PI)), (h, .inr (6, fs)), (hs, .inl (cI, 380, .inl (zsm S (zDS S n len0 tk0 mi) k 0 0))), (hL, .inl (cI, 46, .inl (zcp S L 46)))] H := hP
        have hD : va_D AA [(hE, .inl (cI, 7, .inl E)), (hN9, .inl (cI, 128, .inl NM)), (hp, .inl (cI, 64, .inl PI)), (h, .inr (6, fs)), (hs, .inl (cI, 380, .inl (zsm S (zDS S n len0 tk0 mi) k 0 0))), (hL, .inl (cI, 46, .inl (zcp S L 46)))] := hD
        refine lv_aload_n hx hb dX6_lap_42 rfl (lv_at hl 2 rfl) ?_
        refine zcv (wr := [(hE, .inl (cI, 7, .inl E)), (hL, .inl (cI, 46, .inl (zcp S L 46)))]) (va_runV (As := []) (rest := []) ⟨hx, hb, hml, hown, hts⟩ (c_X6_minute l D cI cJ h hs hN9 hp fs S NM PI n len0 tk0 k mi 0 (by first | rfl | assumption | omega) (by first | rfl | assumption | omega) (by first | rfl | assumption | omega) htx0 (by first | rfl | assumption | omega) (by first | rfl | assumption | omega) (by first | rfl | assumption | omega) (by omega) H.size) (cwV 0 hts gX6_lap_X6_minute rfl rfl rfl (by decide +kernel) ⟨Nat.le_of_ble_eq_true rfl, Nat.le_of_ble_eq_true rfl⟩) (zpV hK hN hZ hP hD hS hA [3, 4, 1, 2] rfl (by decide) 3 rfl rfl rfl) rfl rfl hl.1 rfl (lv_room (Nat.le_of_ble_eq_true rfl)) dX6_lap_43 ⟨Nat.zero_le _, Nat.zero_le _⟩) hP hD hS hA [3, 4, 1, 2] [0, 5] rfl rfl (by decide) (by decide) (fun w_9 H locs h_8 hP hD hS => ?_)
        obtain ⟨NM9_10, PI9_11, rfl⟩ := h_8
        have hP : va_P D vwCl [(hE, .inl (cI, 7, .inl E)), (hL, .inl (cI, 46, .inl (zcp S L 46))), (h, .inr (6, fs)), (hs, .inl (cI, 380, .inl (zsm S (zDS S n len0 tk0 mi) k 0 (0 + 1)))), (hN9, .inl (cI, 128, .inl NM9_10)), (hp, .inl (cI, 64, .inl PI9_11))] H := hP
        have hD : va_D AA [(hE, .inl (cI, 7, .inl E)), (hL, .inl (cI, 46, .inl (zcp S L 46))), (h, .inr (6, fs)), (hs, .inl (cI, 380, .inl (zsm S (zDS S n len0 tk0 mi) k 0 (0 + 1)))), (hN9, .inl (cI, 128, .inl NM9_10)), (hp, .inl (cI, 64, .inl PI9_11))] := hD
        refine lv_iconst (v := nI 1) hx hb dX6_lap_46 (by decide) ?_
        refine lv_istore (lv' := [(5, .int (nI 1)), (4, .int (zGm (zDS S n len0 tk0 mi) k 0 0 j)), (3, .int (zPm (zDS S n len0 tk0 mi) k 0 0 j)), (0, .ref h), (1, .int (nI j)), (2, .int (nI 0))]) hx hb dX6_lap_47 hl (by decide) rfl (fun ls hl => ?_)
        have L_49 : ∀ (fu i : Nat) (NMv : Nat → Int32) (PIv : Nat → Int32) (hi : i ≤ 200) (hn : 200 + 1 ≤ i + fu) (hi1 : 1 ≤ i) (hz : zfind (zPlap (zDS S n len0 tk0 mi) k j) (201 - i) i = zfind (zPlap (zDS S n len0 tk0 mi) k j) 200 1), ∀ (ls : Array Slot), lv_has ls 8 [(0, .ref h), (1, .int (nI j)), (2, .int (nI 0)), (3, .int (zPm (zDS S n len0 tk0 mi) k 0 0 j)), (4, .int (zGm (zDS S n len0 tk0 mi) k 0 0 j)), (5, .int (nI i))] → ∀ (H : Heap) (locs : List Loc), va_P D vwCl [(h, .inr (6, fs)), (hs, .inl (cI, 380, .inl (zsm S (zDS S n len0 tk0 mi) k 0 i))), (hE, .inl (cI, 7, .inl E)), (hN9, .inl (cI, 128, .inl NMv)), (hp, .inl (cI, 64, .inl PIv)), (hL, .inl (cI, 46, .inl (zcp S L 46)))] H → va_D AA [(h, .inr (6, fs)), (hs, .inl (cI, 380, .inl (zsm S (zDS S n len0 tk0 mi) k 0 i))), (hE, .inl (cI, 7, .inl E)), (hN9, .inl (cI, 128, .inl NMv)), (hp, .inl (cI, 64, .inl PIv)), (hL, .inl (cI, 46, .inl (zcp S L 46)))] → va_S AA s.heap H locs → W pg l ev ({ frames := 6, cells := 0, slots := 0, locals := 141 } : Room) s mt args below meth cd H locs 0 0 QQ (F0 mt 49 ls []) := by
          intro fu
          induction fu with
          | zero =>
            intro i NMv PIv hi hn
            exact absurd hn (by omega)
          | succ fu ih_49 =>
            intro i NMv PIv hi hn hi1 hz ls hl H locs hP hD hS
            refine lv_iload hx hb dX6_lap_49 (lv_at hl 5 rfl) ?_
            refine lv_sipush (v := nI 200) hx hb dX6_lap_51 (by decide) ?_
            refine lv_icmp_ge (tgt := 77) hx hb dX6_lap_54 (by decide) (fun c54_12 => ?_) (fun c54_12 => ?_)
            · have c54_12 : 200 ≤ i := (nI_leI (a := 200) (b := i) (by omega) (by omega)).mp c54_12
              refine lv_aload_n hx hb dX6_lap_77 rfl (lv_at hl 0 rfl) ?_
              refine lv_iload_n hx hb dX6_lap_78 rfl (lv_at hl 1 rfl) ?_
              refine lv_iconst (v := nI 2) hx hb dX6_lap_79 (by decide) ?_
              refine zcsE (va_runV (As := [.int (nI j), .int (nI 2)]) (rest := []) ⟨hx, hb, hml, hown, hts⟩ (c_X6_its l D cI cJ h hs fs (zsm S (zDS S n len0 tk0 mi) k 0 i) j 2 (by first | rfl | assumption | omega) (by first | rfl | assumption | omega) H.size) (cwV 2 hts gX6_lap_X6_its rfl rfl rfl (by decide +kernel) ⟨Nat.le_of_ble_eq_true rfl, Nat.le_of_ble_eq_true rfl⟩) (zpV hK hN hZ hP hD hS hA [0, 1] rfl (by decide) 0 rfl rfl rfl) rfl rfl hl.1 rfl (lv_room (Nat.le_of_ble_eq_true rfl)) dX6_lap_80 ⟨Nat.zero_le _, Nat.zero_le _⟩) ?_
              refine zrw (zsm_P (by omega)) ?_
              refine lv_iload_n hx hb dX6_lap_83 rfl (lv_at hl 3 rfl) ?_
              refine lv_icmp_ne (tgt := 91) hx hb dX6_lap_84 (by decide) (fun c84_13 => ?_) (fun c84_13 => ?_)
              · refine lv_iconst (v := nI 0) hx hb dX6_lap_91 (by decide) ?_
                refine lv_istore (lv' := [(6, .int (nI 0)), (0, .ref h), (1, .int (nI j)), (2, .int (nI 0)), (3, .int (zPm (zDS S n len0 tk0 mi) k 0 0 j)), (4, .int (zGm (zDS S n len0 tk0 mi) k 0 0 j)), (5, .int (nI i))]) hx hb dX6_lap_92 hl (by decide) rfl (fun ls hl => ?_)
                refine lv_aload_n hx hb dX6_lap_94 rfl (lv_at hl 1 rfl) ?_
                refine lv_iload_n hx hb dX6_lap_95 rfl (lv_at hl 2 rfl) ?_
                refine lv_iconst (v := nI 3) hx hb dX6_lap_96 (by decide) ?_
                refine zcsE (va_runV (As := [.int (nI j), .int (nI 3)]) (rest := []) ⟨hx, hb, hml, hown, hts⟩ (c_X6_its l D cI cJ h hs fs (zsm S (zDS S n len0 tk0 mi) k 0 i) j 3 (by first | rfl | assumption | omega) (by first | rfl | assumption | omega) H.size) (cwV 2 hts gX6_lap_X6_its rfl rfl rfl (by decide +kernel) ⟨Nat.le_of_ble_eq_true rfl, Nat.le_of_ble_eq_true rfl⟩) (zpV hK hN hZ hP hD hS hA [0, 1] rfl (by decide) 0 rfl rfl rfl) rfl rfl hl.1 rfl (lv_room (Nat.le_of_ble_eq_true rfl)) dX6_lap_97 ⟨Nat.zero_le _, Nat.zero_le _⟩) ?_
                refine zrw (zsm_G (by omega)) ?_
                refine lv_iload hx hb dX6_lap_100 (lv_at hl 5 rfl) ?_
                refine lv_isub hx hb dX6_lap_102 ?_
                refine lv_istore (lv' := [(7, .int ((zGm (zDS S n len0 tk0 mi) k 0 i j) - (zGm (zDS S n len0 tk0 mi) k 0 0 j))), (6, .int (nI 0)), (0, .ref h), (1, .int (nI j)), (2, .int (nI 0)), (3, .int (zPm (zDS S n len0 tk0 mi) k 0 0 j)), (4, .int (zGm (zDS S n len0 tk0 mi) k 0 0 j)), (5, .int (nI i))]) hx hb dX6_lap_103 hl (by decide) rfl (fun ls hl => ?_)
                refine lv_aload_n hx hb dX6_lap_105 rfl (lv_at hl 2 rfl) ?_
                refine zcv (wr := [(hE, .inl (cI, 7, .inl E)), (hN9, .inl (cI, 128, .inl NMv)), (hp, .inl (cI, 64, .inl PIv))]) (va_runV (As := []) (rest := []) ⟨hx, hb, hml, hown, hts⟩ (c_X6_layBack l D cI cJ h hs hL fs (zsm S (zDS S n len0 tk0 mi) k 0 i) (zcp S L 46) (by first | rfl | assumption | omega) (by first | rfl | assumption | omega) H.size) (cwV 0 hts gX6_lap_X6_layBack rfl rfl rfl (by decide +kernel) ⟨Nat.le_of_ble_eq_true rfl, Nat.le_of_ble_eq_true rfl⟩) (zpV hK hN hZ hP hD hS hA [0, 1, 5] rfl (by decide) 0 rfl rfl rfl) rfl rfl hl.1 rfl (lv_room (Nat.le_of_ble_eq_true rfl)) dX6_lap_106 ⟨Nat.zero_le _, Nat.zero_le _⟩) hP hD hS hA [0, 1, 5] [2, 3, 4] rfl rfl (by decide) (by decide) (fun w_15 H locs h_14 hP hD hS => ?_)
                obtain rfl := h_14
                have hP : va_P D vwCl [(hE, .inl (cI, 7, .inl E)), (hN9, .inl (cI, 128, .inl NMv)), (hp, .inl (cI, 64, .inl PIv)), (h, .inr (6, fs)), (hs, .inl (cI, 380, .inl (zcp (zcp S L 46) (zsm S (zDS S n len0 tk0 mi) k 0 i) 46))), (hL, .inl (cI, 46, .inl ((zcp S L 46))))] H := hP
                have hD : va_D AA [(hE, .inl (cI, 7, .inl E)), (hN9, .inl (cI, 128, .inl NMv)), (hp, .inl (cI, 64, .inl PIv)), (h, .inr (6, fs)), (hs, .inl (cI, 380, .inl (zcp (zcp S L 46) (zsm S (zDS S n len0 tk0 mi) k 0 i) 46))), (hL, .inl (cI, 46, .inl ((zcp S L 46))))] := hD
                have hP := zPx (i := 4) (g := S) hP rfl (fun j _ => congrFun (zback hkle) j)
                have hD := zDx (i := 4) (g := S) hD rfl
                have hP : va_P D vwCl [(hE, .inl (cI, 7, .inl E)), (hN9, .inl (cI, 128, .inl NMv)), (hp, .inl (cI, 64, .inl PIv)), (h, .inr (6, fs)), (hs, .inl (cI, 380, .inl S)), (hL, .inl (cI, 46, .inl ((zcp S L 46))))] H := hP
                have hD : va_D AA [(hE, .inl (cI, 7, .inl E)), (hN9, .inl (cI, 128, .inl NMv)), (hp, .inl (cI, 64, .inl PIv)), (h, .inr (6, fs)), (hs, .inl (cI, 380, .inl S)), (hL, .inl (cI, 46, .inl ((zcp S L 46))))] := hD
                refine lv_iload hx hb dX6_lap_109 (lv_at hl 1 rfl) ?_
                refine lv_if_ne (tgt := 122) hx hb dX6_lap_111 (by decide) (fun c111_16 => ?_) (fun c111_16 => ?_)
                · have c111_16 : ¬ (0 = 0) := fun h9 => c111_16 ((nI_eq (a := 0) (b := 0) (by omega) (by omega)).mpr h9)
                  exact absurd c111_16 (by omega)
                · have c111_16 : 0 = 0 := (nI_eq (a := 0) (b := 0) (by omega) (by omega)).mp c111_16
                  refine lv_aload_n hx hb dX6_lap_114 rfl (lv_at hl 2 rfl) ?_
                  refine lv_iconst (v := nI 2) hx hb dX6_lap_115 (by decide) ?_
                  refine zci (wr := [(hN9, .inl (cI, 128, .inl NMv)), (hp, .inl (cI, 64, .inl PIv)), (hs, .inl (cI, 380, .inl S)), (hL, .inl (cI, 46, .inl ((zcp S L 46))))]) (va_runV (As := [.int (nI 2)]) (rest := []) ⟨hx, hb, hml, hown, hts⟩ (c_X6_error l D cI cJ h hE fs E 2 (by first | rfl | assumption | omega) (by first | rfl | assumption | omega) H.size) (cwV 1 hts gX6_lap_X6_error rfl rfl rfl (by decide +kernel) ⟨Nat.le_of_ble_eq_true rfl, Nat.le_of_ble_eq_true rfl⟩) (zpV hK hN hZ hP hD hS hA [3, 0] rfl (by decide) 3 rfl rfl rfl) rfl rfl hl.1 rfl (lv_room (Nat.le_of_ble_eq_true rfl)) dX6_lap_116 ⟨Nat.zero_le _, Nat.zero_le _⟩) hP hD hS hA [3, 0] [1, 2, 4, 5] rfl rfl (by decide) (by decide) (fun r_19 w_18 H locs h_17 hP hD hS => ?_)
                  obtain ⟨rfl, rfl⟩ := h_17
                  have hP : va_P D vwCl [(hN9, .inl (cI, 128, .inl NMv)), (hp, .inl (cI, 64, .inl PIv)), (hs, .inl (cI, 380, .inl S)), (hL, .inl (cI, 46, .inl ((zcp S L 46)))), (h, .inr (6, fs)), (hE, .inl (cI, 7, .inl (upd E 2 (E 2 + nI 1))))] H := hP
                  have hD : va_D AA [(hN9, .inl (cI, 128, .inl NMv)), (hp, .inl (cI, 64, .inl PIv)), (hs, .inl (cI, 380, .inl S)), (hL, .inl (cI, 46, .inl ((zcp S L 46)))), (h, .inr (6, fs)), (hE, .inl (cI, 7, .inl (upd E 2 (E 2 + nI 1))))] := hD
                  refine lv_goto (tgt := 133) hx hb dX6_lap_119 (by decide) ?_
                  have hP := hP.sub (ws' := [(h, .inr (6, fs)), (hs, .inl (cI, 380, .inl S)), (hE, .inl (cI, 7, .inl (upd E 2 (E 2 + nI 1)))), (hN9, .inl (cI, 128, .inl NMv)), (hp, .inl (cI, 64, .inl PIv)), (hL, .inl (cI, 46, .inl ((zcp S L 46))))]) [4, 2, 5, 0, 1, 3] rfl
                  have hD := hD.sub (ws' := [(h, .inr (6, fs)), (hs, .inl (cI, 380, .inl S)), (hE, .inl (cI, 7, .inl (upd E 2 (E 2 + nI 1)))), (hN9, .inl (cI, 128, .inl NMv)), (hp, .inl (cI, 64, .inl PIv)), (hL, .inl (cI, 46, .inl ((zcp S L 46))))]) [4, 2, 5, 0, 1, 3] (by decide) rfl
                  exact hret hP hD hS dX6_lap_133 rfl (by (have hm : zfind (zPlap (zDS S n len0 tk0 mi) k j) 200 1 = 201 := (by rw [← hz, show 201 - i = 0 + 1 by omega, zfind_n (P := (zPlap (zDS S n len0 tk0 mi) k j)) (by assumption), show i + 1 = 201 by omega]; rfl)); rw [show zo_lap S E k (zDS S n len0 tk0 mi) (nI j) (nI 0) = zerrE 2 S E from by rw [zo_lap, if_pos ⟨by assumption, by decide⟩, nI_clamp (show j < 2147483648 by omega), hm, if_neg (by decide)]]; exact ⟨_, _, _, rfl, rfl⟩)
              · refine lv_iconst (v := nI 1) hx hb dX6_lap_87 (by decide) ?_
                refine lv_goto (tgt := 92) hx hb dX6_lap_88 (by decide) ?_
                refine lv_istore (lv' := [(6, .int (nI 1)), (0, .ref h), (1, .int (nI j)), (2, .int (nI 0)), (3, .int (zPm (zDS S n len0 tk0 mi) k 0 0 j)), (4, .int (zGm (zDS S n len0 tk0 mi) k 0 0 j)), (5, .int (nI i))]) hx hb dX6_lap_92 hl (by decide) rfl (fun ls hl => ?_)
                refine lv_aload_n hx hb dX6_lap_94 rfl (lv_at hl 1 rfl) ?_
                refine lv_iload_n hx hb dX6_lap_95 rfl (lv_at hl 2 rfl) ?_
                refine lv_iconst (v := nI 3) hx hb dX6_lap_96 (by decide) ?_
                refine zcsE (va_runV (As := [.int (nI j), .int (nI 3)]) (rest := []) ⟨hx, hb, hml, hown, hts⟩ (c_X6_its l D cI cJ h hs fs (zsm S (zDS S n len0 tk0 mi) k 0 i) j 3 (by first | rfl | assumption | omega) (by first | rfl | assumption | omega) H.size) (cwV 2 hts gX6_lap_X6_its rfl rfl rfl (by decide +kernel) ⟨Nat.le_of_ble_eq_true rfl, Nat.le_of_ble_eq_true rfl⟩) (zpV hK hN hZ hP hD hS hA [0, 1] rfl (by decide) 0 rfl rfl rfl) rfl rfl hl.1 rfl (lv_room (Nat.le_of_ble_eq_true rfl)) dX6_lap_97 ⟨Nat.zero_le _, Nat.zero_le _⟩) ?_
                refine zrw (zsm_G (by omega)) ?_
                refine lv_iload hx hb dX6_lap_100 (lv_at hl 5 rfl) ?_
                refine lv_isub hx hb dX6_lap_102 ?_
                refine lv_istore (lv' := [(7, .int ((zGm (zDS S n len0 tk0 mi) k 0 i j) - (zGm (zDS S n len0 tk0 mi) k 0 0 j))), (6, .int (nI 1)), (0, .ref h), (1, .int (nI j)), (2, .int (nI 0)), (3, .int (zPm (zDS S n len0 tk0 mi) k 0 0 j)), (4, .int (zGm (zDS S n len0 tk0 mi) k 0 0 j)), (5, .int (nI i))]) hx hb dX6_lap_103 hl (by decide) rfl (fun ls hl => ?_)
                refine lv_aload_n hx hb dX6_lap_105 rfl (lv_at hl 2 rfl) ?_
                refine zcv (wr := [(hE, .inl (cI, 7, .inl E)), (hN9, .inl (cI, 128, .inl NMv)), (hp, .inl (cI, 64, .inl PIv))]) (va_runV (As := []) (rest := []) ⟨hx, hb, hml, hown, hts⟩ (c_X6_layBack l D cI cJ h hs hL fs (zsm S (zDS S n len0 tk0 mi) k 0 i) (zcp S L 46) (by first | rfl | assumption | omega) (by first | rfl | assumption | omega) H.size) (cwV 0 hts gX6_lap_X6_layBack rfl rfl rfl (by decide +kernel) ⟨Nat.le_of_ble_eq_true rfl, Nat.le_of_ble_eq_true rfl⟩) (zpV hK hN hZ hP hD hS hA [0, 1, 5] rfl (by decide) 0 rfl rfl rfl) rfl rfl hl.1 rfl (lv_room (Nat.le_of_ble_eq_true rfl)) dX6_lap_106 ⟨Nat.zero_le _, Nat.zero_le _⟩) hP hD hS hA [0, 1, 5] [2, 3, 4] rfl rfl (by decide) (by decide) (fun w_21 H locs h_20 hP hD hS => ?_)
                obtain rfl := h_20
                have hP : va_P D vwCl [(hE, .inl (cI, 7, .inl E)), (hN9, .inl (cI, 128, .inl NMv)), (hp, .inl (cI, 64, .inl PIv)), (h, .inr (6, fs)), (hs, .inl (cI, 380, .inl (zcp (zcp S L 46) (zsm S (zDS S n len0 tk0 mi) k 0 i) 46))), (hL, .inl (cI, 46, .inl ((zcp S L 46))))] H := hP
                have hD : va_D AA [(hE, .inl (cI, 7, .inl E)), (hN9, .inl (cI, 128, .inl NMv)), (hp, .inl (cI, 64, .inl PIv)), (h, .inr (6, fs)), (hs, .inl (cI, 380, .inl (zcp (zcp S L 46) (zsm S (zDS S n len0 tk0 mi) k 0 i) 46))), (hL, .inl (cI, 46, .inl ((zcp S L 46))))] := hD
                have hP := zPx (i := 4) (g := S) hP rfl (fun j _ => congrFun (zback hkle) j)
                have hD := zDx (i := 4) (g := S) hD rfl
                have hP : va_P D vwCl [(hE, .inl (cI, 7, .inl E)), (hN9, .inl (cI, 128, .inl NMv)), (hp, .inl (cI, 64, .inl PIv)), (h, .inr (6, fs)), (hs, .inl (cI, 380, .inl S)), (hL, .inl (cI, 46, .inl ((zcp S L 46))))] H := hP
                have hD : va_D AA [(hE, .inl (cI, 7, .inl E)), (hN9, .inl (cI, 128, .inl NMv)), (hp, .inl (cI, 64, .inl PIv)), (h, .inr (6, fs)), (hs, .inl (cI, 380, .inl S)), (hL, .inl (cI, 46, .inl ((zcp S L 46))))] := hD
                refine lv_iload hx hb dX6_lap_109 (lv_at hl 1 rfl) ?_
                refine lv_if_ne (tgt := 122) hx hb dX6_lap_111 (by decide) (fun c111_22 => ?_) (fun c111_22 => ?_)
                · have c111_22 : ¬ (1 = 0) := fun h9 => c111_22 ((nI_eq (a := 1) (b := 0) (by omega) (by omega)).mpr h9)
                  refine lv_iload_n hx hb dX6_lap_122 rfl (lv_at hl 4 rfl) ?_
                  refine lv_if_ne (tgt := 131) hx hb dX6_lap_123 (by decide) (fun c123_23 => ?_) (fun c123_23 => ?_)
                  · have c123_23 : ¬ (0 = 0) := fun h9 => c123_23 ((nI_eq (a := 0) (b := 0) (by omega) (by omega)).mpr h9)
                    exact absurd c123_23 (by omega)
                  · have c123_23 : 0 = 0 := (nI_eq (a := 0) (b := 0) (by omega) (by omega)).mp c123_23
                    refine lv_iload hx hb dX6_lap_126 (lv_at hl 7 rfl) ?_
                    refine lv_goto (tgt := 133) hx hb dX6_lap_128 (by decide) ?_
                    have hP := hP.sub (ws' := [(h, .inr (6, fs)), (hs, .inl (cI, 380, .inl S)), (hE, .inl (cI, 7, .inl E)), (hN9, .inl (cI, 128, .inl NMv)), (hp, .inl (cI, 64, .inl PIv)), (hL, .inl (cI, 46, .inl ((zcp S L 46))))]) [3, 4, 0, 1, 2, 5] rfl
                    have hD := hD.sub (ws' := [(h, .inr (6, fs)), (hs, .inl (cI, 380, .inl S)), (hE, .inl (cI, 7, .inl E)), (hN9, .inl (cI, 128, .inl NMv)), (hp, .inl (cI, 64, .inl PIv)), (hL, .inl (cI, 46, .inl ((zcp S L 46))))]) [3, 4, 0, 1, 2, 5] (by decide) rfl
                    exact hret hP hD hS dX6_lap_133 rfl (by (have hm : zfind (zPlap (zDS S n len0 tk0 mi) k j) 200 1 = i := (by rw [← hz, show 201 - i = (200 - i) + 1 by omega]; exact zfind_p (by assumption))); rw [show zo_lap S E k (zDS S n len0 tk0 mi) (nI j) (nI 0) = (nI i, S, E) from by rw [zo_lap, if_pos ⟨by assumption, by decide⟩, nI_clamp (show j < 2147483648 by omega), hm, if_pos (by omega), if_pos rfl]]; exact ⟨_, _, _, rfl, rfl⟩)
                · have c111_22 : 1 = 0 := (nI_eq (a := 1) (b := 0) (by omega) (by omega)).mp c111_22
                  exact absurd c111_22 (by omega)
            · have c54_12 : ¬ (200 ≤ i) := fun h9 => c54_12 ((nI_leI (a := 200) (b := i) (by omega) (by omega)).mpr h9)
              refine lv_aload_n hx hb dX6_lap_57 rfl (lv_at hl 0 rfl) ?_
              refine lv_iload_n hx hb dX6_lap_58 rfl (lv_at hl 1 rfl) ?_
              refine lv_iconst (v := nI 2) hx hb dX6_lap_59 (by decide) ?_
              refine zcsE (va_runV (As := [.int (nI j), .int (nI 2)]) (rest := []) ⟨hx, hb, hml, hown, hts⟩ (c_X6_its l D cI cJ h hs fs (zsm S (zDS S n len0 tk0 mi) k 0 i) j 2 (by first | rfl | assumption | omega) (by first | rfl | assumption | omega) H.size) (cwV 2 hts gX6_lap_X6_its rfl rfl rfl (by decide +kernel) ⟨Nat.le_of_ble_eq_true rfl, Nat.le_of_ble_eq_true rfl⟩) (zpV hK hN hZ hP hD hS hA [0, 1] rfl (by decide) 0 rfl rfl rfl) rfl rfl hl.1 rfl (lv_room (Nat.le_of_ble_eq_true rfl)) dX6_lap_60 ⟨Nat.zero_le _, Nat.zero_le _⟩) ?_
              refine zrw (zsm_P (by omega)) ?_
              refine lv_iload_n hx hb dX6_lap_63 rfl (lv_at hl 3 rfl) ?_
              refine lv_icmp_eq (tgt := 77) hx hb dX6_lap_64 (by decide) (fun c64_24 => ?_) (fun c64_24 => ?_)
              · refine lv_aload_n hx hb dX6_lap_77 rfl (lv_at hl 0 rfl) ?_
                refine lv_iload_n hx hb dX6_lap_78 rfl (lv_at hl 1 rfl) ?_
                refine lv_iconst (v := nI 2) hx hb dX6_lap_79 (by decide) ?_
                refine zcsE (va_runV (As := [.int (nI j), .int (nI 2)]) (rest := []) ⟨hx, hb, hml, hown, hts⟩ (c_X6_its l D cI cJ h hs fs (zsm S (zDS S n len0 tk0 mi) k 0 i) j 2 (by first | rfl | assumption | omega) (by first | rfl | assumption | omega) H.size) (cwV 2 hts gX6_lap_X6_its rfl rfl rfl (by decide +kernel) ⟨Nat.le_of_ble_eq_true rfl, Nat.le_of_ble_eq_true rfl⟩) (zpV hK hN hZ hP hD hS hA [0, 1] rfl (by decide) 0 rfl rfl rfl) rfl rfl hl.1 rfl (lv_room (Nat.le_of_ble_eq_true rfl)) dX6_lap_80 ⟨Nat.zero_le _, Nat.zero_le _⟩) ?_
                refine zrw (zsm_P (by omega)) ?_
                refine lv_iload_n hx hb dX6_lap_83 rfl (lv_at hl 3 rfl) ?_
                refine lv_icmp_ne (tgt := 91) hx hb dX6_lap_84 (by decide) (fun c84_25 => ?_) (fun c84_25 => ?_)
                · exact absurd (by assumption) c84_25
                · refine lv_iconst (v := nI 1) hx hb dX6_lap_87 (by decide) ?_
                  refine lv_goto (tgt := 92) hx hb dX6_lap_88 (by decide) ?_
                  refine lv_istore (lv' := [(6, .int (nI 1)), (0, .ref h), (1, .int (nI j)), (2, .int (nI 0)), (3, .int (zPm (zDS S n len0 tk0 mi) k 0 0 j)), (4, .int (zGm (zDS S n len0 tk0 mi) k 0 0 j)), (5, .int (nI i))]) hx hb dX6_lap_92 hl (by decide) rfl (fun ls hl => ?_)
                  refine lv_aload_n hx hb dX6_lap_94 rfl (lv_at hl 1 rfl) ?_
                  refine lv_iload_n hx hb dX6_lap_95 rfl (lv_at hl 2 rfl) ?_
                  refine lv_iconst (v := nI 3) hx hb dX6_lap_96 (by decide) ?_
                  refine zcsE (va_runV (As := [.int (nI j), .int (nI 3)]) (rest := []) ⟨hx, hb, hml, hown, hts⟩ (c_X6_its l D cI cJ h hs fs (zsm S (zDS S n len0 tk0 mi) k 0 i) j 3 (by first | rfl | assumption | omega) (by first | rfl | assumption | omega) H.size) (cwV 2 hts gX6_lap_X6_its rfl rfl rfl (by decide +kernel) ⟨Nat.le_of_ble_eq_true rfl, Nat.le_of_ble_eq_true rfl⟩) (zpV hK hN hZ hP hD hS hA [0, 1] rfl (by decide) 0 rfl rfl rfl) rfl rfl hl.1 rfl (lv_room (Nat.le_of_ble_eq_true rfl)) dX6_lap_97 ⟨Nat.zero_le _, Nat.zero_le _⟩) ?_
                  refine zrw (zsm_G (by omega)) ?_
                  refine lv_iload hx hb dX6_lap_100 (lv_at hl 5 rfl) ?_
                  refine lv_isub hx hb dX6_lap_102 ?_
                  refine lv_istore (lv' := [(7, .int ((zGm (zDS S n len0 tk0 mi) k 0 i j) - (zGm (zDS S n len0 tk0 mi) k 0 0 j))), (6, .int (nI 1)), (0, .ref h), (1, .int (nI j)), (2, .int (nI 0)), (3, .int (zPm (zDS S n len0 tk0 mi) k 0 0 j)), (4, .int (zGm (zDS S n len0 tk0 mi) k 0 0 j)), (5, .int (nI i))]) hx hb dX6_lap_103 hl (by decide) rfl (fun ls hl => ?_)
                  refine lv_aload_n hx hb dX6_lap_105 rfl (lv_at hl 2 rfl) ?_
                  refine zcv (wr := [(hE, .inl (cI, 7, .inl E)), (hN9, .inl (cI, 128, .inl NMv)), (hp, .inl (cI, 64, .inl PIv))]) (va_runV (As := []) (rest := []) ⟨hx, hb, hml, hown, hts⟩ (c_X6_layBack l D cI cJ h hs hL fs (zsm S (zDS S n len0 tk0 mi) k 0 i) (zcp S L 46) (by first | rfl | assumption | omega) (by first | rfl | assumption | omega) H.size) (cwV 0 hts gX6_lap_X6_layBack rfl rfl rfl (by decide +kernel) ⟨Nat.le_of_ble_eq_true rfl, Nat.le_of_ble_eq_true rfl⟩) (zpV hK hN hZ hP hD hS hA [0, 1, 5] rfl (by decide) 0 rfl rfl rfl) rfl rfl hl.1 rfl (lv_room (Nat.le_of_ble_eq_true rfl)) dX6_lap_106 ⟨Nat.zero_le _, Nat.zero_le _⟩) hP hD hS hA [0, 1, 5] [2, 3, 4] rfl rfl (by decide) (by decide) (fun w_27 H locs h_26 hP hD hS => ?_)
                  obtain rfl := h_26
                  have hP : va_P D vwCl [(hE, .inl (cI, 7, .inl E)), (hN9, .inl (cI, 128, .inl NMv)), (hp, .inl (cI, 64, .inl PIv)), (h, .inr (6, fs)), (hs, .inl (cI, 380, .inl (zcp (zcp S L 46) (zsm S (zDS S n len0 tk0 mi) k 0 i) 46))), (hL, .inl (cI, 46, .inl ((zcp S L 46))))] H := hP
                  have hD : va_D AA [(hE, .inl (cI, 7, .inl E)), (hN9, .inl (cI, 128, .inl NMv)), (hp, .inl (cI, 64, .inl PIv)), (h, .inr (6, fs)), (hs, .inl (cI, 380, .inl (zcp (zcp S L 46) (zsm S (zDS S n len0 tk0 mi) k 0 i) 46))), (hL, .inl (cI, 46, .inl ((zcp S L 46))))] := hD
                  have hP := zPx (i := 4) (g := S) hP rfl (fun j _ => congrFun (zback hkle) j)
                  have hD := zDx (i := 4) (g := S) hD rfl
                  have hP : va_P D vwCl [(hE, .inl (cI, 7, .inl E)), (hN9, .inl (cI, 128, .inl NMv)), (hp, .inl (cI, 64, .inl PIv)), (h, .inr (6, fs)), (hs, .inl (cI, 380, .inl S)), (hL, .inl (cI, 46, .inl ((zcp S L 46))))] H := hP
                  have hD : va_D AA [(hE, .inl (cI, 7, .inl E)), (hN9, .inl (cI, 128, .inl NMv)), (hp, .inl (cI, 64, .inl PIv)), (h, .inr (6, fs)), (hs, .inl (cI, 380, .inl S)), (hL, .inl (cI, 46, .inl ((zcp S L 46))))] := hD
                  refine lv_iload hx hb dX6_lap_109 (lv_at hl 1 rfl) ?_
                  refine lv_if_ne (tgt := 122) hx hb dX6_lap_111 (by decide) (fun c111_28 => ?_) (fun c111_28 => ?_)
                  · have c111_28 : ¬ (1 = 0) := fun h9 => c111_28 ((nI_eq (a := 1) (b := 0) (by omega) (by omega)).mpr h9)
                    refine lv_iload_n hx hb dX6_lap_122 rfl (lv_at hl 4 rfl) ?_
                    refine lv_if_ne (tgt := 131) hx hb dX6_lap_123 (by decide) (fun c123_29 => ?_) (fun c123_29 => ?_)
                    · have c123_29 : ¬ (0 = 0) := fun h9 => c123_29 ((nI_eq (a := 0) (b := 0) (by omega) (by omega)).mpr h9)
                      exact absurd c123_29 (by omega)
                    · have c123_29 : 0 = 0 := (nI_eq (a := 0) (b := 0) (by omega) (by omega)).mp c123_29
                      refine lv_iload hx hb dX6_lap_126 (lv_at hl 7 rfl) ?_
                      refine lv_goto (tgt := 133) hx hb dX6_lap_128 (by decide) ?_
                      have hP := hP.sub (ws' := [(h, .inr (6, fs)), (hs, .inl (cI, 380, .inl S)), (hE, .inl (cI, 7, .inl E)), (hN9, .inl (cI, 128, .inl NMv)), (hp, .inl (cI, 64, .inl PIv)), (hL, .inl (cI, 46, .inl ((zcp S L 46))))]) [3, 4, 0, 1, 2, 5] rfl
                      have hD := hD.sub (ws' := [(h, .inr (6, fs)), (hs, .inl (cI, 380, .inl S)), (hE, .inl (cI, 7, .inl E)), (hN9, .inl (cI, 128, .inl NMv)), (hp, .inl (cI, 64, .inl PIv)), (hL, .inl (cI, 46, .inl ((zcp S L 46))))]) [3, 4, 0, 1, 2, 5] (by decide) rfl
                      exact hret hP hD hS dX6_lap_133 rfl (by (have hm : zfind (zPlap (zDS S n len0 tk0 mi) k j) 200 1 = i := (by rw [← hz, show 201 - i = (200 - i) + 1 by omega]; exact zfind_p (by assumption))); rw [show zo_lap S E k (zDS S n len0 tk0 mi) (nI j) (nI 0) = (nI i, S, E) from by rw [zo_lap, if_pos ⟨by assumption, by decide⟩, nI_clamp (show j < 2147483648 by omega), hm, if_pos (by omega), if_pos rfl]]; exact ⟨_, _, _, rfl, rfl⟩)
                  · have c111_28 : 1 = 0 := (nI_eq (a := 1) (b := 0) (by omega) (by omega)).mp c111_28
                    exact absurd c111_28 (by omega)
              · refine lv_aload_n hx hb dX6_lap_67 rfl (lv_at hl 0 rfl) ?_
                refine zcv (wr := [(hE, .inl (cI, 7, .inl E)), (hL, .inl (cI, 46, .inl (zcp S L 46)))]) (va_runV (As := []) (rest := []) ⟨hx, hb, hml, hown, hts⟩ (c_X6_minute l D cI cJ h hs hN9 hp fs S NMv PIv n len0 tk0 k mi i (by first | rfl | assumption | omega) (by first | rfl | assumption | omega) (by first | rfl | assumption | omega) htx0 (by first | rfl | assumption | omega) (by first | rfl | assumption | omega) (by first | rfl | assumption | omega) (by omega) H.size) (cwV 0 hts gX6_lap_X6_minute rfl rfl rfl (by decide +kernel) ⟨Nat.le_of_ble_eq_true rfl, Nat.le_of_ble_eq_true rfl⟩) (zpV hK hN hZ hP hD hS hA [0, 1, 3, 4] rfl (by decide) 0 rfl rfl rfl) rfl rfl hl.1 rfl (lv_room (Nat.le_of_ble_eq_true rfl)) dX6_lap_68 ⟨Nat.zero_le _, Nat.zero_le _⟩) hP hD hS hA [0, 1, 3, 4] [2, 5] rfl rfl (by decide) (by decide) (fun w_31 H locs h_30 hP hD hS => ?_)
                obtain ⟨NM9_32, PI9_33, rfl⟩ := h_30
                have hP : va_P D vwCl [(hE, .inl (cI, 7, .inl E)), (hL, .inl (cI, 46, .inl (zcp S L 46))), (h, .inr (6, fs)), (hs, .inl (cI, 380, .inl (zsm S (zDS S n len0 tk0 mi) k 0 (i + 1)))), (hN9, .inl (cI, 128, .inl NM9_32)), (hp, .inl (cI, 64, .inl PI9_33))] H := hP
                have hD : va_D AA [(hE, .inl (cI, 7, .inl E)), (hL, .inl (cI, 46, .inl (zcp S L 46))), (h, .inr (6, fs)), (hs, .inl (cI, 380, .inl (zsm S (zDS S n len0 tk0 mi) k 0 (i + 1)))), (hN9, .inl (cI, 128, .inl NM9_32)), (hp, .inl (cI, 64, .inl PI9_33))] := hD
                refine lv_iinc (v := nI (i + 1)) (lv' := [(5, .int (nI (i + 1))), (0, .ref h), (1, .int (nI j)), (2, .int (nI 0)), (3, .int (zPm (zDS S n len0 tk0 mi) k 0 0 j)), (4, .int (zGm (zDS S n len0 tk0 mi) k 0 0 j))]) hx hb dX6_lap_71 hl (k := 5) rfl (nI_add _ _) (by decide) rfl (fun ls hl => ?_)
                refine lv_goto (tgt := 49) hx hb dX6_lap_74 (by decide) ?_
                exact ih_49  (i + 1) NM9_32 PI9_33 (by omega) (by omega) (by omega) (by rw [← hz, show 201 - i = (201 - (i + 1)) + 1 by omega]; exact (zfind_n (P := (zPlap (zDS S n len0 tk0 mi) k j)) (by assumption)).symm) ls (lv_sub hl [1, 2, 3, 4, 5, 0] rfl) H locs (hP.sub [2, 3, 0, 4, 5, 1] rfl) (hD.sub [2, 3, 0, 4, 5, 1] (by decide) rfl) hS
        exact L_49 (200 + 1) 1 NM9_10 PI9_11 (by omega) (by omega) (by omega) rfl ls (lv_sub hl [3, 4, 5, 2, 1, 0] rfl) _ _ (hP.sub [2, 3, 0, 4, 5, 1] rfl) (hD.sub [2, 3, 0, 4, 5, 1] (by decide) rfl) hS
      · subst h9
        refine lv_aload_n hx hb dX6_lap_23 rfl (lv_at hl 0 rfl) ?_
        refine lv_iload_n hx hb dX6_lap_24 rfl (lv_at hl 1 rfl) ?_
        refine lv_iconst (v := nI 2) hx hb dX6_lap_25 (by decide) ?_
        refine zcsE (va_runV (As := [.int (nI j), .int (nI 2)]) (rest := []) ⟨hx, hb, hml, hown, hts⟩ (c_X6_its l D cI cJ h hs fs S j 2 (by first | rfl | assumption | omega) (by first | rfl | assumption | omega) s.heap.size) (cwV 2 hts gX6_lap_X6_its rfl rfl rfl (by decide +kernel) ⟨Nat.le_of_ble_eq_true rfl, Nat.le_of_ble_eq_true rfl⟩) (zpV hK hN hZ hP hD hS hA [0, 1] rfl (by decide) 0 rfl rfl rfl) rfl rfl hl.1 rfl (lv_room (Nat.le_of_ble_eq_true rfl)) dX6_lap_26 ⟨Nat.zero_le _, Nat.zero_le _⟩) ?_
        refine zrw (show S (8 + 4 * j + 2) = zPm (zDS S n len0 tk0 mi) k 0 0 j from by rw [zPm_start hok]; rfl) ?_
        refine lv_istore_n (lv' := [(3, .int (zPm (zDS S n len0 tk0 mi) k 0 0 j)), (0, .ref h), (1, .int (nI j)), (2, .int (nI 1))]) hx hb dX6_lap_29 rfl hl (by decide) rfl (fun ls hl => ?_)
        refine lv_aload_n hx hb dX6_lap_30 rfl (lv_at hl 1 rfl) ?_
        refine lv_iload_n hx hb dX6_lap_31 rfl (lv_at hl 2 rfl) ?_
        refine lv_iconst (v := nI 3) hx hb dX6_lap_32 (by decide) ?_
        refine zcsE (va_runV (As := [.int (nI j), .int (nI 3)]) (rest := []) ⟨hx, hb, hml, hown, hts⟩ (c_X6_its l D cI cJ h hs fs S j 3 (by first | rfl | assumption | omega) (by first | rfl | assumption | omega) s.heap.size) (cwV 2 hts gX6_lap_X6_its rfl rfl rfl (by decide +kernel) ⟨Nat.le_of_ble_eq_true rfl, Nat.le_of_ble_eq_true rfl⟩) (zpV hK hN hZ hP hD hS hA [0, 1] rfl (by decide) 0 rfl rfl rfl) rfl rfl hl.1 rfl (lv_room (Nat.le_of_ble_eq_true rfl)) dX6_lap_33 ⟨Nat.zero_le _, Nat.zero_le _⟩) ?_
        refine zrw (show S (8 + 4 * j + 3) = zGm (zDS S n len0 tk0 mi) k 0 0 j from by rw [zGm_start]; rfl) ?_
        refine lv_istore (lv' := [(4, .int (zGm (zDS S n len0 tk0 mi) k 0 0 j)), (3, .int (zPm (zDS S n len0 tk0 mi) k 0 0 j)), (0, .ref h), (1, .int (nI j)), (2, .int (nI 1))]) hx hb dX6_lap_36 hl (by decide) rfl (fun ls hl => ?_)
        refine lv_aload_n hx hb dX6_lap_38 rfl (lv_at hl 2 rfl) ?_
        refine zcv (wr := [(hE, .inl (cI, 7, .inl E)), (hN9, .inl (cI, 128, .inl NM)), (hp, .inl (cI, 64, .inl PI))]) (va_runV (As := []) (rest := []) ⟨hx, hb, hml, hown, hts⟩ (c_X6_layDown l D cI cJ h hs hL fs S L (by first | rfl | assumption | omega) (by first | rfl | assumption | omega) s.heap.size) (cwV 0 hts gX6_lap_X6_layDown rfl rfl rfl (by decide +kernel) ⟨Nat.le_of_ble_eq_true rfl, Nat.le_of_ble_eq_true rfl⟩) (zpV hK hN hZ hP hD hS hA [0, 1, 5] rfl (by decide) 0 rfl rfl rfl) rfl rfl hl.1 rfl (lv_room (Nat.le_of_ble_eq_true rfl)) dX6_lap_39 ⟨Nat.zero_le _, Nat.zero_le _⟩) hP hD hS hA [0, 1, 5] [2, 3, 4] rfl rfl (by decide) (by decide) (fun w_35 H locs h_34 hP hD hS => ?_)
        obtain rfl := h_34
        have hP : va_P D vwCl [(hE, .inl (cI, 7, .inl E)), (hN9, .inl (cI, 128, .inl NM)), (hp, .inl (cI, 64, .inl PI)), (h, .inr (6, fs)), (hs, .inl (cI, 380, .inl S)), (hL, .inl (cI, 46, .inl (zcp S L 46)))] H := hP
        have hD : va_D AA [(hE, .inl (cI, 7, .inl E)), (hN9, .inl (cI, 128, .inl NM)), (hp, .inl (cI, 64, .inl PI)), (h, .inr (6, fs)), (hs, .inl (cI, 380, .inl S)), (hL, .inl (cI, 46, .inl (zcp S L 46)))] := hD
        have hP := zPx (i := 4) (g := zsm S (zDS S n len0 tk0 mi) k 0 0) hP rfl (fun j _ => (congrFun (zsm_start hmi hok) j).symm)
        have hD := zDx (i := 4) (g := zsm S (zDS S n len0 tk0 mi) k 0 0) hD rfl
        have hP : va_P D vwCl [(hE, .inl (cI, 7, .inl E)), (hN9, .inl (cI, 128, .inl NM)), (hp, .inl (cI, 64, .inl PI)), (h, .inr (6, fs)), (hs, .inl (cI, 380, .inl (zsm S (zDS S n len0 tk0 mi) k 0 0))), (hL, .inl (cI, 46, .inl (zcp S L 46)))] H := hP
        have hD : va_D AA [(hE, .inl (cI, 7, .inl E)), (hN9, .inl (cI, 128, .inl NM)), (hp, .inl (cI, 64, .inl PI)), (h, .inr (6, fs)), (hs, .inl (cI, 380, .inl (zsm S (zDS S n len0 tk0 mi) k 0 0))), (hL, .inl (cI, 46, .inl (zcp S L 46)))] := hD
        refine lv_aload_n hx hb dX6_lap_42 rfl (lv_at hl 2 rfl) ?_
        refine zcv (wr := [(hE, .inl (cI, 7, .inl E)), (hL, .inl (cI, 46, .inl (zcp S L 46)))]) (va_runV (As := []) (rest := []) ⟨hx, hb, hml, hown, hts⟩ (c_X6_minute l D cI cJ h hs hN9 hp fs S NM PI n len0 tk0 k mi 0 (by first | rfl | assumption | omega) (by first | rfl | assumption | omega) (by first | rfl | assumption | omega) htx0 (by first | rfl | assumption | omega) (by first | rfl | assumption | omega) (by first | rfl | assumption | omega) (by omega) H.size) (cwV 0 hts gX6_lap_X6_minute rfl rfl rfl (by decide +kernel) ⟨Nat.le_of_ble_eq_true rfl, Nat.le_of_ble_eq_true rfl⟩) (zpV hK hN hZ hP hD hS hA [3, 4, 1, 2] rfl (by decide) 3 rfl rfl rfl) rfl rfl hl.1 rfl (lv_room (Nat.le_of_ble_eq_true rfl)) dX6_lap_43 ⟨Nat.zero_le _, Nat.zero_le _⟩) hP hD hS hA [3, 4, 1, 2] [0, 5] rfl rfl (by decide) (by decide) (fun w_37 H locs h_36 hP hD hS => ?_)
        obtain ⟨NM9_38, PI9_39, rfl⟩ := h_36
        have hP : va_P D vwCl [(hE, .inl (cI, 7, .inl E)), (hL, .inl (cI, 46, .inl (zcp S L 46))), (h, .inr (6, fs)), (hs, .inl (cI, 380, .inl (zsm S (zDS S n len0 tk0 mi) k 0 (0 + 1)))), (hN9, .inl (cI, 128, .inl NM9_38)), (hp, .inl (cI, 64, .inl PI9_39))] H := hP
        have hD : va_D AA [(hE, .inl (cI, 7, .inl E)), (hL, .inl (cI, 46, .inl (zcp S L 46))), (h, .inr (6, fs)), (hs, .inl (cI, 380, .inl (zsm S (zDS S n len0 tk0 mi) k 0 (0 + 1)))), (hN9, .inl (cI, 128, .inl NM9_38)), (hp, .inl (cI, 64, .inl PI9_39))] := hD
        refine lv_iconst (v := nI 1) hx hb dX6_lap_46 (by decide) ?_
        refine lv_istore (lv' := [(5, .int (nI 1)), (4, .int (zGm (zDS S n len0 tk0 mi) k 0 0 j)), (3, .int (zPm (zDS S n len0 tk0 mi) k 0 0 j)), (0, .ref h), (1, .int (nI j)), (2, .int (nI 1))]) hx hb dX6_lap_47 hl (by decide) rfl (fun ls hl => ?_)
        have L_49 : ∀ (fu i : Nat) (NMv : Nat → Int32) (PIv : Nat → Int32) (hi : i ≤ 200) (hn : 200 + 1 ≤ i + fu) (hi1 : 1 ≤ i) (hz : zfind (zPlap (zDS S n len0 tk0 mi) k j) (201 - i) i = zfind (zPlap (zDS S n len0 tk0 mi) k j) 200 1), ∀ (ls : Array Slot), lv_has ls 8 [(0, .ref h), (1, .int (nI j)), (2, .int (nI 1)), (3, .int (zPm (zDS S n len0 tk0 mi) k 0 0 j)), (4, .int (zGm (zDS S n len0 tk0 mi) k 0 0 j)), (5, .int (nI i))] → ∀ (H : Heap) (locs : List Loc), va_P D vwCl [(h, .inr (6, fs)), (hs, .inl (cI, 380, .inl (zsm S (zDS S n len0 tk0 mi) k 0 i))), (hE, .inl (cI, 7, .inl E)), (hN9, .inl (cI, 128, .inl NMv)), (hp, .inl (cI, 64, .inl PIv)), (hL, .inl (cI, 46, .inl (zcp S L 46)))] H → va_D AA [(h, .inr (6, fs)), (hs, .inl (cI, 380, .inl (zsm S (zDS S n len0 tk0 mi) k 0 i))), (hE, .inl (cI, 7, .inl E)), (hN9, .inl (cI, 128, .inl NMv)), (hp, .inl (cI, 64, .inl PIv)), (hL, .inl (cI, 46, .inl (zcp S L 46)))] → va_S AA s.heap H locs → W pg l ev ({ frames := 6, cells := 0, slots := 0, locals := 141 } : Room) s mt args below meth cd H locs 0 0 QQ (F0 mt 49 ls []) := by
          intro fu
          induction fu with
          | zero =>
            intro i NMv PIv hi hn
            exact absurd hn (by omega)
          | succ fu ih_49 =>
            intro i NMv PIv hi hn hi1 hz ls hl H locs hP hD hS
            refine lv_iload hx hb dX6_lap_49 (lv_at hl 5 rfl) ?_
            refine lv_sipush (v := nI 200) hx hb dX6_lap_51 (by decide) ?_
            refine lv_icmp_ge (tgt := 77) hx hb dX6_lap_54 (by decide) (fun c54_40 => ?_) (fun c54_40 => ?_)
            · have c54_40 : 200 ≤ i := (nI_leI (a := 200) (b := i) (by omega) (by omega)).mp c54_40
              refine lv_aload_n hx hb dX6_lap_77 rfl (lv_at hl 0 rfl) ?_
              refine lv_iload_n hx hb dX6_lap_78 rfl (lv_at hl 1 rfl) ?_
              refine lv_iconst (v := nI 2) hx hb dX6_lap_79 (by decide) ?_
              refine zcsE (va_runV (As := [.int (nI j), .int (nI 2)]) (rest := []) ⟨hx, hb, hml, hown, hts⟩ (c_X6_its l D cI cJ h hs fs (zsm S (zDS S n len0 tk0 mi) k 0 i) j 2 (by first | rfl | assumption | omega) (by first | rfl | assumption | omega) H.size) (cwV 2 hts gX6_lap_X6_its rfl rfl rfl (by decide +kernel) ⟨Nat.le_of_ble_eq_true rfl, Nat.le_of_ble_eq_true rfl⟩) (zpV hK hN hZ hP hD hS hA [0, 1] rfl (by decide) 0 rfl rfl rfl) rfl rfl hl.1 rfl (lv_room (Nat.le_of_ble_eq_true rfl)) dX6_lap_80 ⟨Nat.zero_le _, Nat.zero_le _⟩) ?_
              refine zrw (zsm_P (by omega)) ?_
              refine lv_iload_n hx hb dX6_lap_83 rfl (lv_at hl 3 rfl) ?_
              refine lv_icmp_ne (tgt := 91) hx hb dX6_lap_84 (by decide) (fun c84_41 => ?_) (fun c84_41 => ?_)
              · refine lv_iconst (v := nI 0) hx hb dX6_lap_91 (by decide) ?_
                refine lv_istore (lv' := [(6, .int (nI 0)), (0, .ref h), (1, .int (nI j)), (2, .int (nI 1)), (3, .int (zPm (zDS S n len0 tk0 mi) k 0 0 j)), (4, .int (zGm (zDS S n len0 tk0 mi) k 0 0 j)), (5, .int (nI i))]) hx hb dX6_lap_92 hl (by decide) rfl (fun ls hl => ?_)
                refine lv_aload_n hx hb dX6_lap_94 rfl (lv_at hl 1 rfl) ?_
                refine lv_iload_n hx hb dX6_lap_95 rfl (lv_at hl 2 rfl) ?_
                refine lv_iconst (v := nI 3) hx hb dX6_lap_96 (by decide) ?_
                refine zcsE (va_runV (As := [.int (nI j), .int (nI 3)]) (rest := []) ⟨hx, hb, hml, hown, hts⟩ (c_X6_its l D cI cJ h hs fs (zsm S (zDS S n len0 tk0 mi) k 0 i) j 3 (by first | rfl | assumption | omega) (by first | rfl | assumption | omega) H.size) (cwV 2 hts gX6_lap_X6_its rfl rfl rfl (by decide +kernel) ⟨Nat.le_of_ble_eq_true rfl, Nat.le_of_ble_eq_true rfl⟩) (zpV hK hN hZ hP hD hS hA [0, 1] rfl (by decide) 0 rfl rfl rfl) rfl rfl hl.1 rfl (lv_room (Nat.le_of_ble_eq_true rfl)) dX6_lap_97 ⟨Nat.zero_le _, Nat.zero_le _⟩) ?_
                refine zrw (zsm_G (by omega)) ?_
                refine lv_iload hx hb dX6_lap_100 (lv_at hl 5 rfl) ?_
                refine lv_isub hx hb dX6_lap_102 ?_
                refine lv_istore (lv' := [(7, .int ((zGm (zDS S n len0 tk0 mi) k 0 i j) - (zGm (zDS S n len0 tk0 mi) k 0 0 j))), (6, .int (nI 0)), (0, .ref h), (1, .int (nI j)), (2, .int (nI 1)), (3, .int (zPm (zDS S n len0 tk0 mi) k 0 0 j)), (4, .int (zGm (zDS S n len0 tk0 mi) k 0 0 j)), (5, .int (nI i))]) hx hb dX6_lap_103 hl (by decide) rfl (fun ls hl => ?_)
                refine lv_aload_n hx hb dX6_lap_105 rfl (lv_at hl 2 rfl) ?_
                refine zcv (wr := [(hE, .inl (cI, 7, .inl E)), (hN9, .inl (cI, 128, .inl NMv)), (hp, .inl (cI, 64, .inl PIv))]) (va_runV (As := []) (rest := []) ⟨hx, hb, hml, hown, hts⟩ (c_X6_layBack l D cI cJ h hs hL fs (zsm S (zDS S n len0 tk0 mi) k 0 i) (zcp S L 46) (by first | rfl | assumption | omega) (by first | rfl | assumption | omega) H.size) (cwV 0 hts gX6_lap_X6_layBack rfl rfl rfl (by decide +kernel) ⟨Nat.le_of_ble_eq_true rfl, Nat.le_of_ble_eq_true rfl⟩) (zpV hK hN hZ hP hD hS hA [0, 1, 5] rfl (by decide) 0 rfl rfl rfl) rfl rfl hl.1 rfl (lv_room (Nat.le_of_ble_eq_true rfl)) dX6_lap_106 ⟨Nat.zero_le _, Nat.zero_le _⟩) hP hD hS hA [0, 1, 5] [2, 3, 4] rfl rfl (by decide) (by decide) (fun w_43 H locs h_42 hP hD hS => ?_)
                obtain rfl := h_42
                have hP : va_P D vwCl [(hE, .inl (cI, 7, .inl E)), (hN9, .inl (cI, 128, .inl NMv)), (hp, .inl (cI, 64, .inl PIv)), (h, .inr (6, fs)), (hs, .inl (cI, 380, .inl (zcp (zcp S L 46) (zsm S (zDS S n len0 tk0 mi) k 0 i) 46))), (hL, .inl (cI, 46, .inl ((zcp S L 46))))] H := hP
                have hD : va_D AA [(hE, .inl (cI, 7, .inl E)), (hN9, .inl (cI, 128, .inl NMv)), (hp, .inl (cI, 64, .inl PIv)), (h, .inr (6, fs)), (hs, .inl (cI, 380, .inl (zcp (zcp S L 46) (zsm S (zDS S n len0 tk0 mi) k 0 i) 46))), (hL, .inl (cI, 46, .inl ((zcp S L 46))))] := hD
                have hP := zPx (i := 4) (g := S) hP rfl (fun j _ => congrFun (zback hkle) j)
                have hD := zDx (i := 4) (g := S) hD rfl
                have hP : va_P D vwCl [(hE, .inl (cI, 7, .inl E)), (hN9, .inl (cI, 128, .inl NMv)), (hp, .inl (cI, 64, .inl PIv)), (h, .inr (6, fs)), (hs, .inl (cI, 380, .inl S)), (hL, .inl (cI, 46, .inl ((zcp S L 46))))] H := hP
                have hD : va_D AA [(hE, .inl (cI, 7, .inl E)), (hN9, .inl (cI, 128, .inl NMv)), (hp, .inl (cI, 64, .inl PIv)), (h, .inr (6, fs)), (hs, .inl (cI, 380, .inl S)), (hL, .inl (cI, 46, .inl ((zcp S L 46))))] := hD
                refine lv_iload hx hb dX6_lap_109 (lv_at hl 1 rfl) ?_
                refine lv_if_ne (tgt := 122) hx hb dX6_lap_111 (by decide) (fun c111_44 => ?_) (fun c111_44 => ?_)
                · have c111_44 : ¬ (0 = 0) := fun h9 => c111_44 ((nI_eq (a := 0) (b := 0) (by omega) (by omega)).mpr h9)
                  exact absurd c111_44 (by omega)
                · have c111_44 : 0 = 0 := (nI_eq (a := 0) (b := 0) (by omega) (by omega)).mp c111_44
                  refine lv_aload_n hx hb dX6_lap_114 rfl (lv_at hl 2 rfl) ?_
                  refine lv_iconst (v := nI 2) hx hb dX6_lap_115 (by decide) ?_
                  refine zci (wr := [(hN9, .inl (cI, 128, .inl NMv)), (hp, .inl (cI, 64, .inl PIv)), (hs, .inl (cI, 380, .inl S)), (hL, .inl (cI, 46, .inl ((zcp S L 46))))]) (va_runV (As := [.int (nI 2)]) (rest := []) ⟨hx, hb, hml, hown, hts⟩ (c_X6_error l D cI cJ h hE fs E 2 (by first | rfl | assumption | omega) (by first | rfl | assumption | omega) H.size) (cwV 1 hts gX6_lap_X6_error rfl rfl rfl (by decide +kernel) ⟨Nat.le_of_ble_eq_true rfl, Nat.le_of_ble_eq_true rfl⟩) (zpV hK hN hZ hP hD hS hA [3, 0] rfl (by decide) 3 rfl rfl rfl) rfl rfl hl.1 rfl (lv_room (Nat.le_of_ble_eq_true rfl)) dX6_lap_116 ⟨Nat.zero_le _, Nat.zero_le _⟩) hP hD hS hA [3, 0] [1, 2, 4, 5] rfl rfl (by decide) (by decide) (fun r_47 w_46 H locs h_45 hP hD hS => ?_)
                  obtain ⟨rfl, rfl⟩ := h_45
                  have hP : va_P D vwCl [(hN9, .inl (cI, 128, .inl NMv)), (hp, .inl (cI, 64, .inl PIv)), (hs, .inl (cI, 380, .inl S)), (hL, .inl (cI, 46, .inl ((zcp S L 46)))), (h, .inr (6, fs)), (hE, .inl (cI, 7, .inl (upd E 2 (E 2 + nI 1))))] H := hP
                  have hD : va_D AA [(hN9, .inl (cI, 128, .inl NMv)), (hp, .inl (cI, 64, .inl PIv)), (hs, .inl (cI, 380, .inl S)), (hL, .inl (cI, 46, .inl ((zcp S L 46)))), (h, .inr (6, fs)), (hE, .inl (cI, 7, .inl (upd E 2 (E 2 + nI 1))))] := hD
                  refine lv_goto (tgt := 133) hx hb dX6_lap_119 (by decide) ?_
                  have hP := hP.sub (ws' := [(h, .inr (6, fs)), (hs, .inl (cI, 380, .inl S)), (hE, .inl (cI, 7, .inl (upd E 2 (E 2 + nI 1)))), (hN9, .inl (cI, 128, .inl NMv)), (hp, .inl (cI, 64, .inl PIv)), (hL, .inl (cI, 46, .inl ((zcp S L 46))))]) [4, 2, 5, 0, 1, 3] rfl
                  have hD := hD.sub (ws' := [(h, .inr (6, fs)), (hs, .inl (cI, 380, .inl S)), (hE, .inl (cI, 7, .inl (upd E 2 (E 2 + nI 1)))), (hN9, .inl (cI, 128, .inl NMv)), (hp, .inl (cI, 64, .inl PIv)), (hL, .inl (cI, 46, .inl ((zcp S L 46))))]) [4, 2, 5, 0, 1, 3] (by decide) rfl
                  exact hret hP hD hS dX6_lap_133 rfl (by (have hm : zfind (zPlap (zDS S n len0 tk0 mi) k j) 200 1 = 201 := (by rw [← hz, show 201 - i = 0 + 1 by omega, zfind_n (P := (zPlap (zDS S n len0 tk0 mi) k j)) (by assumption), show i + 1 = 201 by omega]; rfl)); rw [show zo_lap S E k (zDS S n len0 tk0 mi) (nI j) (nI 1) = zerrE 2 S E from by rw [zo_lap, if_pos ⟨by assumption, by decide⟩, nI_clamp (show j < 2147483648 by omega), hm, if_neg (by decide)]]; exact ⟨_, _, _, rfl, rfl⟩)
              · refine lv_iconst (v := nI 1) hx hb dX6_lap_87 (by decide) ?_
                refine lv_goto (tgt := 92) hx hb dX6_lap_88 (by decide) ?_
                refine lv_istore (lv' := [(6, .int (nI 1)), (0, .ref h), (1, .int (nI j)), (2, .int (nI 1)), (3, .int (zPm (zDS S n len0 tk0 mi) k 0 0 j)), (4, .int (zGm (zDS S n len0 tk0 mi) k 0 0 j)), (5, .int (nI i))]) hx hb dX6_lap_92 hl (by decide) rfl (fun ls hl => ?_)
                refine lv_aload_n hx hb dX6_lap_94 rfl (lv_at hl 1 rfl) ?_
                refine lv_iload_n hx hb dX6_lap_95 rfl (lv_at hl 2 rfl) ?_
                refine lv_iconst (v := nI 3) hx hb dX6_lap_96 (by decide) ?_
                refine zcsE (va_runV (As := [.int (nI j), .int (nI 3)]) (rest := []) ⟨hx, hb, hml, hown, hts⟩ (c_X6_its l D cI cJ h hs fs (zsm S (zDS S n len0 tk0 mi) k 0 i) j 3 (by first | rfl | assumption | omega) (by first | rfl | assumption | omega) H.size) (cwV 2 hts gX6_lap_X6_its rfl rfl rfl (by decide +kernel) ⟨Nat.le_of_ble_eq_true rfl, Nat.le_of_ble_eq_true rfl⟩) (zpV hK hN hZ hP hD hS hA [0, 1] rfl (by decide) 0 rfl rfl rfl) rfl rfl hl.1 rfl (lv_room (Nat.le_of_ble_eq_true rfl)) dX6_lap_97 ⟨Nat.zero_le _, Nat.zero_le _⟩) ?_
                refine zrw (zsm_G (by omega)) ?_
                refine lv_iload hx hb dX6_lap_100 (lv_at hl 5 rfl) ?_
                refine lv_isub hx hb dX6_lap_102 ?_
                refine lv_istore (lv' := [(7, .int ((zGm (zDS S n len0 tk0 mi) k 0 i j) - (zGm (zDS S n len0 tk0 mi) k 0 0 j))), (6, .int (nI 1)), (0, .ref h), (1, .int (nI j)), (2, .int (nI 1)), (3, .int (zPm (zDS S n len0 tk0 mi) k 0 0 j)), (4, .int (zGm (zDS S n len0 tk0 mi) k 0 0 j)), (5, .int (nI i))]) hx hb dX6_lap_103 hl (by decide) rfl (fun ls hl => ?_)
                refine lv_aload_n hx hb dX6_lap_105 rfl (lv_at hl 2 rfl) ?_
                refine zcv (wr := [(hE, .inl (cI, 7, .inl E)), (hN9, .inl (cI, 128, .inl NMv)), (hp, .inl (cI, 64, .inl PIv))]) (va_runV (As := []) (rest := []) ⟨hx, hb, hml, hown, hts⟩ (c_X6_layBack l D cI cJ h hs hL fs (zsm S (zDS S n len0 tk0 mi) k 0 i) (zcp S L 46) (by first | rfl | assumption | omega) (by first | rfl | assumption | omega) H.size) (cwV 0 hts gX6_lap_X6_layBack rfl rfl rfl (by decide +kernel) ⟨Nat.le_of_ble_eq_true rfl, Nat.le_of_ble_eq_true rfl⟩) (zpV hK hN hZ hP hD hS hA [0, 1, 5] rfl (by decide) 0 rfl rfl rfl) rfl rfl hl.1 rfl (lv_room (Nat.le_of_ble_eq_true rfl)) dX6_lap_106 ⟨Nat.zero_le _, Nat.zero_le _⟩) hP hD hS hA [0, 1, 5] [2, 3, 4] rfl rfl (by decide) (by decide) (fun w_49 H locs h_48 hP hD hS => ?_)
                obtain rfl := h_48
                have hP : va_P D vwCl [(hE, .inl (cI, 7, .inl E)), (hN9, .inl (cI, 128, .inl NMv)), (hp, .inl (cI, 64, .inl PIv)), (h, .inr (6, fs)), (hs, .inl (cI, 380, .inl (zcp (zcp S L 46) (zsm S (zDS S n len0 tk0 mi) k 0 i) 46))), (hL, .inl (cI, 46, .inl ((zcp S L 46))))] H := hP
                have hD : va_D AA [(hE, .inl (cI, 7, .inl E)), (hN9, .inl (cI, 128, .inl NMv)), (hp, .inl (cI, 64, .inl PIv)), (h, .inr (6, fs)), (hs, .inl (cI, 380, .inl (zcp (zcp S L 46) (zsm S (zDS S n len0 tk0 mi) k 0 i) 46))), (hL, .inl (cI, 46, .inl ((zcp S L 46))))] := hD
                have hP := zPx (i := 4) (g := S) hP rfl (fun j _ => congrFun (zback hkle) j)
                have hD := zDx (i := 4) (g := S) hD rfl
                have hP : va_P D vwCl [(hE, .inl (cI, 7, .inl E)), (hN9, .inl (cI, 128, .inl NMv)), (hp, .inl (cI, 64, .inl PIv)), (h, .inr (6, fs)), (hs, .inl (cI, 380, .inl S)), (hL, .inl (cI, 46, .inl ((zcp S L 46))))] H := hP
                have hD : va_D AA [(hE, .inl (cI, 7, .inl E)), (hN9, .inl (cI, 128, .inl NMv)), (hp, .inl (cI, 64, .inl PIv)), (h, .inr (6, fs)), (hs, .inl (cI, 380, .inl S)), (hL, .inl (cI, 46, .inl ((zcp S L 46))))] := hD
                refine lv_iload hx hb dX6_lap_109 (lv_at hl 1 rfl) ?_
                refine lv_if_ne (tgt := 122) hx hb dX6_lap_111 (by decide) (fun c111_50 => ?_) (fun c111_50 => ?_)
                · have c111_50 : ¬ (1 = 0) := fun h9 => c111_50 ((nI_eq (a := 1) (b := 0) (by omega) (by omega)).mpr h9)
                  refine lv_iload_n hx hb dX6_lap_122 rfl (lv_at hl 4 rfl) ?_
                  refine lv_if_ne (tgt := 131) hx hb dX6_lap_123 (by decide) (fun c123_51 => ?_) (fun c123_51 => ?_)
                  · have c123_51 : ¬ (1 = 0) := fun h9 => c123_51 ((nI_eq (a := 1) (b := 0) (by omega) (by omega)).mpr h9)
                    refine lv_iload hx hb dX6_lap_131 (lv_at hl 0 rfl) ?_
                    have hP := hP.sub (ws' := [(h, .inr (6, fs)), (hs, .inl (cI, 380, .inl S)), (hE, .inl (cI, 7, .inl E)), (hN9, .inl (cI, 128, .inl NMv)), (hp, .inl (cI, 64, .inl PIv)), (hL, .inl (cI, 46, .inl ((zcp S L 46))))]) [3, 4, 0, 1, 2, 5] rfl
                    have hD := hD.sub (ws' := [(h, .inr (6, fs)), (hs, .inl (cI, 380, .inl S)), (hE, .inl (cI, 7, .inl E)), (hN9, .inl (cI, 128, .inl NMv)), (hp, .inl (cI, 64, .inl PIv)), (hL, .inl (cI, 46, .inl ((zcp S L 46))))]) [3, 4, 0, 1, 2, 5] (by decide) rfl
                    exact hret hP hD hS dX6_lap_133 rfl (by (have hm : zfind (zPlap (zDS S n len0 tk0 mi) k j) 200 1 = i := (by rw [← hz, show 201 - i = (200 - i) + 1 by omega]; exact zfind_p (by assumption))); rw [show zo_lap S E k (zDS S n len0 tk0 mi) (nI j) (nI 1) = (zGm (zDS S n len0 tk0 mi) k 0 i j - zGm (zDS S n len0 tk0 mi) k 0 0 j, S, E) from by rw [zo_lap, if_pos ⟨by assumption, by decide⟩, nI_clamp (show j < 2147483648 by omega), hm, if_pos (by omega), if_neg (by decide)]]; exact ⟨_, _, _, rfl, rfl⟩)
                  · have c123_51 : 1 = 0 := (nI_eq (a := 1) (b := 0) (by omega) (by omega)).mp c123_51
                    exact absurd c123_51 (by omega)
                · have c111_50 : 1 = 0 := (nI_eq (a := 1) (b := 0) (by omega) (by omega)).mp c111_50
                  exact absurd c111_50 (by omega)
            · have c54_40 : ¬ (200 ≤ i) := fun h9 => c54_40 ((nI_leI (a := 200) (b := i) (by omega) (by omega)).mpr h9)
              refine lv_aload_n hx hb dX6_lap_57 rfl (lv_at hl 0 rfl) ?_
              refine lv_iload_n hx hb dX6_lap_58 rfl (lv_at hl 1 rfl) ?_
              refine lv_iconst (v := nI 2) hx hb dX6_lap_59 (by decide) ?_
              refine zcsE (va_runV (As := [.int (nI j), .int (nI 2)]) (rest := []) ⟨hx, hb, hml, hown, hts⟩ (c_X6_its l D cI cJ h hs fs (zsm S (zDS S n len0 tk0 mi) k 0 i) j 2 (by first | rfl | assumption | omega) (by first | rfl | assumption | omega) H.size) (cwV 2 hts gX6_lap_X6_its rfl rfl rfl (by decide +kernel) ⟨Nat.le_of_ble_eq_true rfl, Nat.le_of_ble_eq_true rfl⟩) (zpV hK hN hZ hP hD hS hA [0, 1] rfl (by decide) 0 rfl rfl rfl) rfl rfl hl.1 rfl (lv_room (Nat.le_of_ble_eq_true rfl)) dX6_lap_60 ⟨Nat.zero_le _, Nat.zero_le _⟩) ?_
              refine zrw (zsm_P (by omega)) ?_
              refine lv_iload_n hx hb dX6_lap_63 rfl (lv_at hl 3 rfl) ?_
              refine lv_icmp_eq (tgt := 77) hx hb dX6_lap_64 (by decide) (fun c64_52 => ?_) (fun c64_52 => ?_)
              · refine lv_aload_n hx hb dX6_lap_77 rfl (lv_at hl 0 rfl) ?_
                refine lv_iload_n hx hb dX6_lap_78 rfl (lv_at hl 1 rfl) ?_
                refine lv_iconst (v := nI 2) hx hb dX6_lap_79 (by decide) ?_
                refine zcsE (va_runV (As := [.int (nI j), .int (nI 2)]) (rest := []) ⟨hx, hb, hml, hown, hts⟩ (c_X6_its l D cI cJ h hs fs (zsm S (zDS S n len0 tk0 mi) k 0 i) j 2 (by first | rfl | assumption | omega) (by first | rfl | assumption | omega) H.size) (cwV 2 hts gX6_lap_X6_its rfl rfl rfl (by decide +kernel) ⟨Nat.le_of_ble_eq_true rfl, Nat.le_of_ble_eq_true rfl⟩) (zpV hK hN hZ hP hD hS hA [0, 1] rfl (by decide) 0 rfl rfl rfl) rfl rfl hl.1 rfl (lv_room (Nat.le_of_ble_eq_true rfl)) dX6_lap_80 ⟨Nat.zero_le _, Nat.zero_le _⟩) ?_
                refine zrw (zsm_P (by omega)) ?_
                refine lv_iload_n hx hb dX6_lap_83 rfl (lv_at hl 3 rfl) ?_
                refine lv_icmp_ne (tgt := 91) hx hb dX6_lap_84 (by decide) (fun c84_53 => ?_) (fun c84_53 => ?_)
                · exact absurd (by assumption) c84_53
                · refine lv_iconst (v := nI 1) hx hb dX6_lap_87 (by decide) ?_
                  refine lv_goto (tgt := 92) hx hb dX6_lap_88 (by decide) ?_
                  refine lv_istore (lv' := [(6, .int (nI 1)), (0, .ref h), (1, .int (nI j)), (2, .int (nI 1)), (3, .int (zPm (zDS S n len0 tk0 mi) k 0 0 j)), (4, .int (zGm (zDS S n len0 tk0 mi) k 0 0 j)), (5, .int (nI i))]) hx hb dX6_lap_92 hl (by decide) rfl (fun ls hl => ?_)
                  refine lv_aload_n hx hb dX6_lap_94 rfl (lv_at hl 1 rfl) ?_
                  refine lv_iload_n hx hb dX6_lap_95 rfl (lv_at hl 2 rfl) ?_
                  refine lv_iconst (v := nI 3) hx hb dX6_lap_96 (by decide) ?_
                  refine zcsE (va_runV (As := [.int (nI j), .int (nI 3)]) (rest := []) ⟨hx, hb, hml, hown, hts⟩ (c_X6_its l D cI cJ h hs fs (zsm S (zDS S n len0 tk0 mi) k 0 i) j 3 (by first | rfl | assumption | omega) (by first | rfl | assumption | omega) H.size) (cwV 2 hts gX6_lap_X6_its rfl rfl rfl (by decide +kernel) ⟨Nat.le_of_ble_eq_true rfl, Nat.le_of_ble_eq_true rfl⟩) (zpV hK hN hZ hP hD hS hA [0, 1] rfl (by decide) 0 rfl rfl rfl) rfl rfl hl.1 rfl (lv_room (Nat.le_of_ble_eq_true rfl)) dX6_lap_97 ⟨Nat.zero_le _, Nat.zero_le _⟩) ?_
                  refine zrw (zsm_G (by omega)) ?_
                  refine lv_iload hx hb dX6_lap_100 (lv_at hl 5 rfl) ?_
                  refine lv_isub hx hb dX6_lap_102 ?_
                  refine lv_istore (lv' := [(7, .int ((zGm (zDS S n len0 tk0 mi) k 0 i j) - (zGm (zDS S n len0 tk0 mi) k 0 0 j))), (6, .int (nI 1)), (0, .ref h), (1, .int (nI j)), (2, .int (nI 1)), (3, .int (zPm (zDS S n len0 tk0 mi) k 0 0 j)), (4, .int (zGm (zDS S n len0 tk0 mi) k 0 0 j)), (5, .int (nI i))]) hx hb dX6_lap_103 hl (by decide) rfl (fun ls hl => ?_)
                  refine lv_aload_n hx hb dX6_lap_105 rfl (lv_at hl 2 rfl) ?_
                  refine zcv (wr := [(hE, .inl (cI, 7, .inl E)), (hN9, .inl (cI, 128, .inl NMv)), (hp, .inl (cI, 64, .inl PIv))]) (va_runV (As := []) (rest := []) ⟨hx, hb, hml, hown, hts⟩ (c_X6_layBack l D cI cJ h hs hL fs (zsm S (zDS S n len0 tk0 mi) k 0 i) (zcp S L 46) (by first | rfl | assumption | omega) (by first | rfl | assumption | omega) H.size) (cwV 0 hts gX6_lap_X6_layBack rfl rfl rfl (by decide +kernel) ⟨Nat.le_of_ble_eq_true rfl, Nat.le_of_ble_eq_true rfl⟩) (zpV hK hN hZ hP hD hS hA [0, 1, 5] rfl (by decide) 0 rfl rfl rfl) rfl rfl hl.1 rfl (lv_room (Nat.le_of_ble_eq_true rfl)) dX6_lap_106 ⟨Nat.zero_le _, Nat.zero_le _⟩) hP hD hS hA [0, 1, 5] [2, 3, 4] rfl rfl (by decide) (by decide) (fun w_55 H locs h_54 hP hD hS => ?_)
                  obtain rfl := h_54
                  have hP : va_P D vwCl [(hE, .inl (cI, 7, .inl E)), (hN9, .inl (cI, 128, .inl NMv)), (hp, .inl (cI, 64, .inl PIv)), (h, .inr (6, fs)), (hs, .inl (cI, 380, .inl (zcp (zcp S L 46) (zsm S (zDS S n len0 tk0 mi) k 0 i) 46))), (hL, .inl (cI, 46, .inl ((zcp S L 46))))] H := hP
                  have hD : va_D AA [(hE, .inl (cI, 7, .inl E)), (hN9, .inl (cI, 128, .inl NMv)), (hp, .inl (cI, 64, .inl PIv)), (h, .inr (6, fs)), (hs, .inl (cI, 380, .inl (zcp (zcp S L 46) (zsm S (zDS S n len0 tk0 mi) k 0 i) 46))), (hL, .inl (cI, 46, .inl ((zcp S L 46))))] := hD
                  have hP := zPx (i := 4) (g := S) hP rfl (fun j _ => congrFun (zback hkle) j)
                  have hD := zDx (i := 4) (g := S) hD rfl
                  have hP : va_P D vwCl [(hE, .inl (cI, 7, .inl E)), (hN9, .inl (cI, 128, .inl NMv)), (hp, .inl (cI, 64, .inl PIv)), (h, .inr (6, fs)), (hs, .inl (cI, 380, .inl S)), (hL, .inl (cI, 46, .inl ((zcp S L 46))))] H := hP
                  have hD : va_D AA [(hE, .inl (cI, 7, .inl E)), (hN9, .inl (cI, 128, .inl NMv)), (hp, .inl (cI, 64, .inl PIv)), (h, .inr (6, fs)), (hs, .inl (cI, 380, .inl S)), (hL, .inl (cI, 46, .inl ((zcp S L 46))))] := hD
                  refine lv_iload hx hb dX6_lap_109 (lv_at hl 1 rfl) ?_
                  refine lv_if_ne (tgt := 122) hx hb dX6_lap_111 (by decide) (fun c111_56 => ?_) (fun c111_56 => ?_)
                  · have c111_56 : ¬ (1 = 0) := fun h9 => c111_56 ((nI_eq (a := 1) (b := 0) (by omega) (by omega)).mpr h9)
                    refine lv_iload_n hx hb dX6_lap_122 rfl (lv_at hl 4 rfl) ?_
                    refine lv_if_ne (tgt := 131) hx hb dX6_lap_123 (by decide) (fun c123_57 => ?_) (fun c123_57 => ?_)
                    · have c123_57 : ¬ (1 = 0) := fun h9 => c123_57 ((nI_eq (a := 1) (b := 0) (by omega) (by omega)).mpr h9)
                      refine lv_iload hx hb dX6_lap_131 (lv_at hl 0 rfl) ?_
                      have hP := hP.sub (ws' := [(h, .inr (6, fs)), (hs, .inl (cI, 380, .inl S)), (hE, .inl (cI, 7, .inl E)), (hN9, .inl (cI, 128, .inl NMv)), (hp, .inl (cI, 64, .inl PIv)), (hL, .inl (cI, 46, .inl ((zcp S L 46))))]) [3, 4, 0, 1, 2, 5] rfl
                      have hD := hD.sub (ws' := [(h, .inr (6, fs)), (hs, .inl (cI, 380, .inl S)), (hE, .inl (cI, 7, .inl E)), (hN9, .inl (cI, 128, .inl NMv)), (hp, .inl (cI, 64, .inl PIv)), (hL, .inl (cI, 46, .inl ((zcp S L 46))))]) [3, 4, 0, 1, 2, 5] (by decide) rfl
                      exact hret hP hD hS dX6_lap_133 rfl (by (have hm : zfind (zPlap (zDS S n len0 tk0 mi) k j) 200 1 = i := (by rw [← hz, show 201 - i = (200 - i) + 1 by omega]; exact zfind_p (by assumption))); rw [show zo_lap S E k (zDS S n len0 tk0 mi) (nI j) (nI 1) = (zGm (zDS S n len0 tk0 mi) k 0 i j - zGm (zDS S n len0 tk0 mi) k 0 0 j, S, E) from by rw [zo_lap, if_pos ⟨by assumption, by decide⟩, nI_clamp (show j < 2147483648 by omega), hm, if_pos (by omega), if_neg (by decide)]]; exact ⟨_, _, _, rfl, rfl⟩)
                    · have c123_57 : 1 = 0 := (nI_eq (a := 1) (b := 0) (by omega) (by omega)).mp c123_57
                      exact absurd c123_57 (by omega)
                  · have c111_56 : 1 = 0 := (nI_eq (a := 1) (b := 0) (by omega) (by omega)).mp c111_56
                    exact absurd c111_56 (by omega)
              · refine lv_aload_n hx hb dX6_lap_67 rfl (lv_at hl 0 rfl) ?_
                refine zcv (wr := [(hE, .inl (cI, 7, .inl E)), (hL, .inl (cI, 46, .inl (zcp S L 46)))]) (va_runV (As := []) (rest := []) ⟨hx, hb, hml, hown, hts⟩ (c_X6_minute l D cI cJ h hs hN9 hp fs S NMv PIv n len0 tk0 k mi i (by first | rfl | assumption | omega) (by first | rfl | assumption | omega) (by first | rfl | assumption | omega) htx0 (by first | rfl | assumption | omega) (by first | rfl | assumption | omega) (by first | rfl | assumption | omega) (by omega) H.size) (cwV 0 hts gX6_lap_X6_minute rfl rfl rfl (by decide +kernel) ⟨Nat.le_of_ble_eq_true rfl, Nat.le_of_ble_eq_true rfl⟩) (zpV hK hN hZ hP hD hS hA [0, 1, 3, 4] rfl (by decide) 0 rfl rfl rfl) rfl rfl hl.1 rfl (lv_room (Nat.le_of_ble_eq_true rfl)) dX6_lap_68 ⟨Nat.zero_le _, Nat.zero_le _⟩) hP hD hS hA [0, 1, 3, 4] [2, 5] rfl rfl (by decide) (by decide) (fun w_59 H locs h_58 hP hD hS => ?_)
                obtain ⟨NM9_60, PI9_61, rfl⟩ := h_58
                have hP : va_P D vwCl [(hE, .inl (cI, 7, .inl E)), (hL, .inl (cI, 46, .inl (zcp S L 46))), (h, .inr (6, fs)), (hs, .inl (cI, 380, .inl (zsm S (zDS S n len0 tk0 mi) k 0 (i + 1)))), (hN9, .inl (cI, 128, .inl NM9_60)), (hp, .inl (cI, 64, .inl PI9_61))] H := hP
                have hD : va_D AA [(hE, .inl (cI, 7, .inl E)), (hL, .inl (cI, 46, .inl (zcp S L 46))), (h, .inr (6, fs)), (hs, .inl (cI, 380, .inl (zsm S (zDS S n len0 tk0 mi) k 0 (i + 1)))), (hN9, .inl (cI, 128, .inl NM9_60)), (hp, .inl (cI, 64, .inl PI9_61))] := hD
                refine lv_iinc (v := nI (i + 1)) (lv' := [(5, .int (nI (i + 1))), (0, .ref h), (1, .int (nI j)), (2, .int (nI 1)), (3, .int (zPm (zDS S n len0 tk0 mi) k 0 0 j)), (4, .int (zGm (zDS S n len0 tk0 mi) k 0 0 j))]) hx hb dX6_lap_71 hl (k := 5) rfl (nI_add _ _) (by decide) rfl (fun ls hl => ?_)
                refine lv_goto (tgt := 49) hx hb dX6_lap_74 (by decide) ?_
                exact ih_49  (i + 1) NM9_60 PI9_61 (by omega) (by omega) (by omega) (by rw [← hz, show 201 - i = (201 - (i + 1)) + 1 by omega]; exact (zfind_n (P := (zPlap (zDS S n len0 tk0 mi) k j)) (by assumption)).symm) ls (lv_sub hl [1, 2, 3, 4, 5, 0] rfl) H locs (hP.sub [2, 3, 0, 4, 5, 1] rfl) (hD.sub [2, 3, 0, 4, 5, 1] (by decide) rfl) hS
        exact L_49 (200 + 1) 1 NM9_38 PI9_39 (by omega) (by omega) (by omega) rfl ls (lv_sub hl [3, 4, 5, 2, 1, 0] rfl) _ _ (hP.sub [2, 3, 0, 4, 5, 1] rfl) (hD.sub [2, 3, 0, 4, 5, 1] (by decide) rfl) hS
    · have c14_5 := bI_0.mp c14_5
      refine lv_aload_n hx hb dX6_lap_17 rfl (lv_at hl 0 rfl) ?_
      refine lv_iconst (v := nI 1) hx hb dX6_lap_18 (by decide) ?_
      refine zci (wr := [(hs, .inl (cI, 380, .inl S)), (hN9, .inl (cI, 128, .inl NM)), (hp, .inl (cI, 64, .inl PI)), (hL, .inl (cI, 46, .inl L))]) (va_runV (As := [.int (nI 1)]) (rest := []) ⟨hx, hb, hml, hown, hts⟩ (c_X6_error l D cI cJ h hE fs E 1 (by first | rfl | assumption | omega) (by first | rfl | assumption | omega) s.heap.size) (cwV 1 hts gX6_lap_X6_error rfl rfl rfl (by decide +kernel) ⟨Nat.le_of_ble_eq_true rfl, Nat.le_of_ble_eq_true rfl⟩) (zpV hK hN hZ hP hD hS hA [0, 2] rfl (by decide) 0 rfl rfl rfl) rfl rfl hl.1 rfl (lv_room (Nat.le_of_ble_eq_true rfl)) dX6_lap_19 ⟨Nat.zero_le _, Nat.zero_le _⟩) hP hD hS hA [0, 2] [1, 3, 4, 5] rfl rfl (by decide) (by decide) (fun r_64 w_63 H locs h_62 hP hD hS => ?_)
      obtain ⟨rfl, rfl⟩ := h_62
      have hP : va_P D vwCl [(hs, .inl (cI, 380, .inl S)), (hN9, .inl (cI, 128, .inl NM)), (hp, .inl (cI, 64, .inl PI)), (hL, .inl (cI, 46, .inl L)), (h, .inr (6, fs)), (hE, .inl (cI, 7, .inl (upd E 1 (E 1 + nI 1))))] H := hP
      have hD : va_D AA [(hs, .inl (cI, 380, .inl S)), (hN9, .inl (cI, 128, .inl NM)), (hp, .inl (cI, 64, .inl PI)), (hL, .inl (cI, 46, .inl L)), (h, .inr (6, fs)), (hE, .inl (cI, 7, .inl (upd E 1 (E 1 + nI 1))))] := hD
      have hP := hP.sub (ws' := [(h, .inr (6, fs)), (hs, .inl (cI, 380, .inl S)), (hE, .inl (cI, 7, .inl (upd E 1 (E 1 + nI 1)))), (hN9, .inl (cI, 128, .inl NM)), (hp, .inl (cI, 64, .inl PI)), (hL, .inl (cI, 46, .inl L))]) [4, 0, 5, 1, 2, 3] rfl
      have hD := hD.sub (ws' := [(h, .inr (6, fs)), (hs, .inl (cI, 380, .inl S)), (hE, .inl (cI, 7, .inl (upd E 1 (E 1 + nI 1)))), (hN9, .inl (cI, 128, .inl NM)), (hp, .inl (cI, 64, .inl PI)), (hL, .inl (cI, 46, .inl L))]) [4, 0, 5, 1, 2, 3] (by decide) rfl
      exact hret hP hD hS dX6_lap_22 rfl (by rw [show zo_lap S E k (zDS S n len0 tk0 mi) (nI j) what = zerrE 1 S E from if_neg (by intro h9; first | exact absurd h9.1 (by assumption) | exact absurd h9.2 (by assumption))]; exact ⟨_, _, _, rfl, rfl⟩)
set_option maxHeartbeats 4000000 in
set_option maxRecDepth 100000 in
theorem c_X6_together (l : Launch) (D : va_G) (cI cJ : ClassId) (h : Nat) (hs : Nat) (hE : Nat) (fs : List Value) (S : Nat → Int32) (E : Nat → Int32) (n : Nat) (k : Nat) (hN9 : Nat) (hp : Nat) (hL : Nat) (NM : Nat → Int32) (PI : Nat → Int32) (L : Nat → Int32) (len0 : Nat) (tk0 : zTk) (mi : Nat) (hf0 : fs[0]? = some (.ref hs)) (hf4 : fs[4]? = some (.ref hE)) (hn1 : S 1 = nI n) (hk6 : S 6 = nI k) (hn4 : 4 ≤ n) (hn14 : n ≤ 14) (hkle : k ≤ 6) (hf10 : fs[10]? = some (.ref hN9)) (hf11 : fs[11]? = some (.ref hp)) (hf2 : fs[2]? = some (.ref hL)) (htx0 : zTX S 0 len0 tk0) (hmi : S 0 = nI mi) (hok : zOK (zDS S n len0 tk0 mi) k) : zMi l yX6_together wsX6_together ({ frames := 6, cells := 0, slots := 0, locals := 141 } : Room) D [(cI, .int), (cJ, .array .int)] [.ref h] [(h, .inr (6, fs)), (hs, .inl (cI, 380, .inl S)), (hE, .inl (cI, 7, .inl E)), (hN9, .inl (cI, 128, .inl NM)), (hp, .inl (cI, 64, .inl PI)), (hL, .inl (cI, 46, .inl L))] (fun r w => ∃ NM9 PI9 L9 : Nat → Int32, r = (zo_together S E k (zDS S n len0 tk0 mi)).1 ∧ w = [(h, .inr (6, fs)), (hs, .inl (cI, 380, .inl ((zo_together S E k (zDS S n len0 tk0 mi)).2.1))), (hE, .inl (cI, 7, .inl ((zo_together S E k (zDS S n len0 tk0 mi)).2.2))), (hN9, .inl (cI, 128, .inl NM9)), (hp, .inl (cI, 64, .inl PI9)), (hL, .inl (cI, 46, .inl L9))]) := by
  refine zMi.start (cc := cX6_together) (maxL := 2) (rt := .int) (by first | decide | decide +kernel) rfl (Nat.le_of_ble_eq_true rfl) ?_
  intro pg ev s mt args below meth cd ls AA QQ ⟨hx, hb, hml, hr, hlocks, hown, hts, hK, hN, hZ, hP, hD, hA, hS, hl⟩ hret
  have hown : s.vm.findClass RX6 = some mt.cls := hown
  have hl : lv_has ls 2 [(0, .ref h)] := hl
  have hin6 : ∀ w ∈ wsX60, w ∈ wsX6_together := fun w h => List.mem_cons_of_mem _ (List.mem_append_right _ (h))
  refine lv_aload_n hx hb dX6_together_0 rfl (lv_at hl 0 rfl) ?_
  refine va_get (ci := 6) (v := .ref hs) (C := RX6) (T := TX6) (N := 20) hx hb hts hin6 hown hK hP 0 rfl rfl 0 (by decide) (hts (.fieldLink RX6 7 "UpAllRoundModel" "s" "[I") (List.mem_of_getElem? (i := 1) rfl)) (fun _ h9 => h9) hf0 dX6_together_1 ?_
  refine lv_bipush (v := nI 6) hx hb dX6_together_4 (by decide) ?_
  refine zald (t := 6) hx hb hK hP 1 rfl (by omega) (by decide) dX6_together_6 ?_
  refine zrw hk6 ?_
  refine lv_if_ne (tgt := 16) hx hb dX6_together_7 (by decide) (fun c7_1 => ?_) (fun c7_1 => ?_)
  · have c7_1 : ¬ (k = 0) := fun h9 => c7_1 ((nI_eq (a := k) (b := 0) (by omega) (by omega)).mpr h9)
    refine lv_aload_n hx hb dX6_together_16 rfl (lv_at hl 0 rfl) ?_
    refine zcv (wr := [(hE, .inl (cI, 7, .inl E)), (hN9, .inl (cI, 128, .inl NM)), (hp, .inl (cI, 64, .inl PI))]) (va_runV (As := []) (rest := []) ⟨hx, hb, hml, hown, hts⟩ (c_X6_layDown l D cI cJ h hs hL fs S L (by first | rfl | assumption | omega) (by first | rfl | assumption | omega) s.heap.size) (cwV 0 hts gX6_together_X6_layDown rfl rfl rfl (by decide +kernel) ⟨Nat.le_of_ble_eq_true rfl, Nat.le_of_ble_eq_true rfl⟩) (zpV hK hN hZ hP hD hS hA [0, 1, 5] rfl (by decide) 0 rfl rfl rfl) rfl rfl hl.1 rfl (lv_room (Nat.le_of_ble_eq_true rfl)) dX6_together_17 ⟨Nat.zero_le _, Nat.zero_le _⟩) hP hD hS hA [0, 1, 5] [2, 3, 4] rfl rfl (by decide) (by decide) (fun w_3 H locs h_2 hP hD hS => ?_)
    obtain rfl := h_2
    have hP : va_P D vwCl [(hE, .inl (cI, 7, .inl E)), (hN9, .inl (cI, 128, .inl NM)), (hp, .inl (cI, 64, .inl PI)), (h, .inr (6, fs)), (hs, .inl (cI, 380, .inl S)), (hL, .inl (cI, 46, .inl (zcp S L 46)))] H := hP
    have hD : va_D AA [(hE, .inl (cI, 7, .inl E)), (hN9, .inl (cI, 128, .inl NM)), (hp, .inl (cI, 64, .inl PI)), (h, .inr (6, fs)), (hs, .inl (cI, 380, .inl S)), (hL, .inl (cI, 46, .inl (zcp S L 46)))] := hD
    have hP := zPx (i := 4) (g := zsm S (zDS S n len0 tk0 mi) k 0 0) hP rfl (fun j _ => (congrFun (zsm_start hmi hok) j).symm)
    have hD := zDx (i := 4) (g := zsm S (zDS S n len0 tk0 mi) k 0 0) hD rfl
    have hP : va_P D vwCl [(hE, .inl (cI, 7, .inl E)), (hN9, .inl (cI, 128, .inl NM)), (hp, .inl (cI, 64, .inl PI)), (h, .inr (6, fs)), (hs, .inl (cI, 380, .inl (zsm S (zDS S n len0 tk0 mi) k 0 0))), (hL, .inl (cI, 46, .inl (zcp S L 46)))] H := hP
    have hD : va_D AA [(hE, .inl (cI, 7, .inl E)), (hN9, .inl (cI, 128, .inl NM)), (hp, .inl (cI, 64, .inl PI)), (h, .inr (6, fs)), (hs, .inl (cI, 380, .inl (zsm S (zDS S n len0 tk0 mi) k 0 0))), (hL, .inl (cI, 46, .inl (zcp S L 46)))] := hD
    refine lv_iconst (v := nI 0) hx hb dX6_together_20 (by decide) ?_
    refine lv_istore_n (lv' := [(1, .int (nI 0)), (0, .ref h)]) hx hb dX6_together_21 rfl hl (by decide) rfl (fun ls hl => ?_)
    have L_22 : ∀ (fu i : Nat) (NMv : Nat → Int32) (PIv : Nat → Int32) (hi : i ≤ 501) (hn : 501 + 1 ≤ i + fu) (hz : zfind (zPtog (zDS S n len0 tk0 mi) k) (501 - i) i = zfind (zPtog (zDS S n len0 tk0 mi) k) 501 0), ∀ (ls : Array Slot), lv_has ls 2 [(0, .ref h), (1, .int (nI i))] → ∀ (H : Heap) (locs : List Loc), va_P D vwCl [(h, .inr (6, fs)), (hs, .inl (cI, 380, .inl (zsm S (zDS S n len0 tk0 mi) k 0 i))), (hE, .inl (cI, 7, .inl E)), (hN9, .inl (cI, 128, .inl NMv)), (hp, .inl (cI, 64, .inl PIv)), (hL, .inl (cI, 46, .inl (zcp S L 46)))] H → va_D AA [(h, .inr (6, fs)), (hs, .inl (cI, 380, .inl (zsm S (zDS S n len0 tk0 mi) k 0 i))), (hE, .inl (cI, 7, .inl E)), (hN9, .inl (cI, 128, .inl NMv)), (hp, .inl (cI, 64, .inl PIv)), (hL, .inl (cI, 46, .inl (zcp S L 46)))] → va_S AA s.heap H locs → W pg l ev ({ frames := 6, cells := 0, slots := 0, locals := 141 } : Room) s mt args below meth cd H locs 0 0 QQ (F0 mt 22 ls []) := by
      intro fu
      induction fu with
      | zero =>
        intro i NMv PIv hi hn
        exact absurd hn (by omega)
      | succ fu ih_22 =>
        intro i NMv PIv hi hn hz ls hl H locs hP hD hS
        refine lv_iload_n hx hb dX6_together_22 rfl (lv_at hl 1 rfl) ?_
        refine lv_sipush (v := nI 500) hx hb dX6_together_23 (by decide) ?_
        refine lv_icmp_gt (tgt := 46) hx hb dX6_together_26 (by decide) (fun c26_4 => ?_) (fun c26_4 => ?_)
        · have c26_4 : 500 < i := (nI_ltI (a := 500) (b := i) (by omega) (by omega)).mp c26_4
          refine lv_aload_n hx hb dX6_together_46 rfl (lv_at hl 0 rfl) ?_
          refine zcv (wr := [(hE, .inl (cI, 7, .inl E)), (hN9, .inl (cI, 128, .inl NMv)), (hp, .inl (cI, 64, .inl PIv))]) (va_runV (As := []) (rest := []) ⟨hx, hb, hml, hown, hts⟩ (c_X6_layBack l D cI cJ h hs hL fs (zsm S (zDS S n len0 tk0 mi) k 0 i) (zcp S L 46) (by first | rfl | assumption | omega) (by first | rfl | assumption | omega) H.size) (cwV 0 hts gX6_together_X6_layBack rfl rfl rfl (by decide +kernel) ⟨Nat.le_of_ble_eq_true rfl, Nat.le_of_ble_eq_true rfl⟩) (zpV hK hN hZ hP hD hS hA [0, 1, 5] rfl (by decide) 0 rfl rfl rfl) rfl rfl hl.1 rfl (lv_room (Nat.le_of_ble_eq_true rfl)) dX6_together_47 ⟨Nat.zero_le _, Nat.zero_le _⟩) hP hD hS hA [0, 1, 5] [2, 3, 4] rfl rfl (by decide) (by decide) (fun w_6 H locs h_5 hP hD hS => ?_)
          obtain rfl := h_5
          have hP : va_P D vwCl [(hE, .inl (cI, 7, .inl E)), (hN9, .inl (cI, 128, .inl NMv)), (hp, .inl (cI, 64, .inl PIv)), (h, .inr (6, fs)), (hs, .inl (cI, 380, .inl (zcp (zcp S L 46) (zsm S (zDS S n len0 tk0 mi) k 0 i) 46))), (hL, .inl (cI, 46, .inl ((zcp S L 46))))] H := hP
          have hD : va_D AA [(hE, .inl (cI, 7, .inl E)), (hN9, .inl (cI, 128, .inl NMv)), (hp, .inl (cI, 64, .inl PIv)), (h, .inr (6, fs)), (hs, .inl (cI, 380, .inl (zcp (zcp S L 46) (zsm S (zDS S n len0 tk0 mi) k 0 i) 46))), (hL, .inl (cI, 46, .inl ((zcp S L 46))))] := hD
          have hP := zPx (i := 4) (g := S) hP rfl (fun j _ => congrFun (zback hkle) j)
          have hD := zDx (i := 4) (g := S) hD rfl
          have hP : va_P D vwCl [(hE, .inl (cI, 7, .inl E)), (hN9, .inl (cI, 128, .inl NMv)), (hp, .inl (cI, 64, .inl PIv)), (h, .inr (6, fs)), (hs, .inl (cI, 380, .inl S)), (hL, .inl (cI, 46, .inl ((zcp S L 46))))] H := hP
          have hD : va_D AA [(hE, .inl (cI, 7, .inl E)), (hN9, .inl (cI, 128, .inl NMv)), (hp, .inl (cI, 64, .inl PIv)), (h, .inr (6, fs)), (hs, .inl (cI, 380, .inl S)), (hL, .inl (cI, 46, .inl ((zcp S L 46))))] := hD
          refine lv_iload_n hx hb dX6_together_50 rfl (lv_at hl 1 rfl) ?_
          refine lv_sipush (v := nI 500) hx hb dX6_together_51 (by decide) ?_
          refine lv_icmp_gt (tgt := 61) hx hb dX6_together_54 (by decide) (fun c54_7 => ?_) (fun c54_7 => ?_)
          · have c54_7 : 500 < i := (nI_ltI (a := 500) (b := i) (by omega) (by omega)).mp c54_7
            refine lv_aload_n hx hb dX6_together_61 rfl (lv_at hl 0 rfl) ?_
            refine lv_iconst (v := nI 2) hx hb dX6_together_62 (by decide) ?_
            refine zci (wr := [(hN9, .inl (cI, 128, .inl NMv)), (hp, .inl (cI, 64, .inl PIv)), (hs, .inl (cI, 380, .inl S)), (hL, .inl (cI, 46, .inl ((zcp S L 46))))]) (va_runV (As := [.int (nI 2)]) (rest := []) ⟨hx, hb, hml, hown, hts⟩ (c_X6_error l D cI cJ h hE fs E 2 (by first | rfl | assumption | omega) (by first | rfl | assumption | omega) H.size) (cwV 1 hts gX6_together_X6_error rfl rfl rfl (by decide +kernel) ⟨Nat.le_of_ble_eq_true rfl, Nat.le_of_ble_eq_true rfl⟩) (zpV hK hN hZ hP hD hS hA [3, 0] rfl (by decide) 3 rfl rfl rfl) rfl rfl hl.1 rfl (lv_room (Nat.le_of_ble_eq_true rfl)) dX6_together_63 ⟨Nat.zero_le _, Nat.zero_le _⟩) hP hD hS hA [3, 0] [1, 2, 4, 5] rfl rfl (by decide) (by decide) (fun r_10 w_9 H locs h_8 hP hD hS => ?_)
            obtain ⟨rfl, rfl⟩ := h_8
            have hP : va_P D vwCl [(hN9, .inl (cI, 128, .inl NMv)), (hp, .inl (cI, 64, .inl PIv)), (hs, .inl (cI, 380, .inl S)), (hL, .inl (cI, 46, .inl ((zcp S L 46)))), (h, .inr (6, fs)), (hE, .inl (cI, 7, .inl (upd E 2 (E 2 + nI 1))))] H := hP
            have hD : va_D AA [(hN9, .inl (cI, 128, .inl NMv)), (hp, .inl (cI, 64, .inl PIv)), (hs, .inl (cI, 380, .inl S)), (hL, .inl (cI, 46, .inl ((zcp S L 46)))), (h, .inr (6, fs)), (hE, .inl (cI, 7, .inl (upd E 2 (E 2 + nI 1))))] := hD
            have hP := hP.sub (ws' := [(h, .inr (6, fs)), (hs, .inl (cI, 380, .inl S)), (hE, .inl (cI, 7, .inl (upd E 2 (E 2 + nI 1)))), (hN9, .inl (cI, 128, .inl NMv)), (hp, .inl (cI, 64, .inl PIv)), (hL, .inl (cI, 46, .inl ((zcp S L 46))))]) [4, 2, 5, 0, 1, 3] rfl
            have hD := hD.sub (ws' := [(h, .inr (6, fs)), (hs, .inl (cI, 380, .inl S)), (hE, .inl (cI, 7, .inl (upd E 2 (E 2 + nI 1)))), (hN9, .inl (cI, 128, .inl NMv)), (hp, .inl (cI, 64, .inl PIv)), (hL, .inl (cI, 46, .inl ((zcp S L 46))))]) [4, 2, 5, 0, 1, 3] (by decide) rfl
            exact hret hP hD hS dX6_together_66 rfl (by (have hm : zfind (zPtog (zDS S n len0 tk0 mi) k) 501 0 = 501 := (by rw [← hz, show 501 - i = 0 by omega]; exact (show i = 501 by omega))); rw [show zo_together S E k (zDS S n len0 tk0 mi) = zerrE 2 S E from by rw [zo_together, if_neg (by omega), hm, if_neg (by decide)]]; exact ⟨_, _, _, rfl, rfl⟩)
          · have c54_7 : ¬ (500 < i) := fun h9 => c54_7 ((nI_ltI (a := 500) (b := i) (by omega) (by omega)).mpr h9)
            exact absurd c54_7 (by omega)
        · have c26_4 : ¬ (500 < i) := fun h9 => c26_4 ((nI_ltI (a := 500) (b := i) (by omega) (by omega)).mpr h9)
          refine lv_aload_n hx hb dX6_together_29 rfl (lv_at hl 0 rfl) ?_
          refine zcsE (va_runV (As := []) (rest := []) ⟨hx, hb, hml, hown, hts⟩ (c_X6_areTogether l D cI cJ h hs fs (zsm S (zDS S n len0 tk0 mi) k 0 i) k (by first | rfl | assumption | omega) (by rw [zsm_o (by omega) (by omega)]; exact hk6) (by first | rfl | assumption | omega) (by first | rfl | assumption | omega) H.size) (cwV 0 hts gX6_together_X6_areTogether rfl rfl rfl (by decide +kernel) ⟨Nat.le_of_ble_eq_true rfl, Nat.le_of_ble_eq_true rfl⟩) (zpV hK hN hZ hP hD hS hA [0, 1] rfl (by decide) 0 rfl rfl rfl) rfl rfl hl.1 rfl (lv_room (Nat.le_of_ble_eq_true rfl)) dX6_together_30 ⟨Nat.zero_le _, Nat.zero_le _⟩) ?_
          refine lv_if_ne (tgt := 46) hx hb dX6_together_33 (by decide) (fun c33_11 => ?_) (fun c33_11 => ?_)
          · have c33_11 := bI_n0.mp c33_11
            refine lv_aload_n hx hb dX6_together_46 rfl (lv_at hl 0 rfl) ?_
            refine zcv (wr := [(hE, .inl (cI, 7, .inl E)), (hN9, .inl (cI, 128, .inl NMv)), (hp, .inl (cI, 64, .inl PIv))]) (va_runV (As := []) (rest := []) ⟨hx, hb, hml, hown, hts⟩ (c_X6_layBack l D cI cJ h hs hL fs (zsm S (zDS S n len0 tk0 mi) k 0 i) (zcp S L 46) (by first | rfl | assumption | omega) (by first | rfl | assumption | omega) H.size) (cwV 0 hts gX6_together_X6_layBack rfl rfl rfl (by decide +kernel) ⟨Nat.le_of_ble_eq_true rfl, Nat.le_of_ble_eq_true rfl⟩) (zpV hK hN hZ hP hD hS hA [0, 1, 5] rfl (by decide) 0 rfl rfl rfl) rfl rfl hl.1 rfl (lv_room (Nat.le_of_ble_eq_true rfl)) dX6_together_47 ⟨Nat.zero_le _, Nat.zero_le _⟩) hP hD hS hA [0, 1, 5] [2, 3, 4] rfl rfl (by decide) (by decide) (fun w_13 H locs h_12 hP hD hS => ?_)
            obtain rfl := h_12
            have hP : va_P D vwCl [(hE, .inl (cI, 7, .inl E)), (hN9, .inl (cI, 128, .inl NMv)), (hp, .inl (cI, 64, .inl PIv)), (h, .inr (6, fs)), (hs, .inl (cI, 380, .inl (zcp (zcp S L 46) (zsm S (zDS S n len0 tk0 mi) k 0 i) 46))), (hL, .inl (cI, 46, .inl ((zcp S L 46))))] H := hP
            have hD : va_D AA [(hE, .inl (cI, 7, .inl E)), (hN9, .inl (cI, 128, .inl NMv)), (hp, .inl (cI, 64, .inl PIv)), (h, .inr (6, fs)), (hs, .inl (cI, 380, .inl (zcp (zcp S L 46) (zsm S (zDS S n len0 tk0 mi) k 0 i) 46))), (hL, .inl (cI, 46, .inl ((zcp S L 46))))] := hD
            have hP := zPx (i := 4) (g := S) hP rfl (fun j _ => congrFun (zback hkle) j)
            have hD := zDx (i := 4) (g := S) hD rfl
            have hP : va_P D vwCl [(hE, .inl (cI, 7, .inl E)), (hN9, .inl (cI, 128, .inl NMv)), (hp, .inl (cI, 64, .inl PIv)), (h, .inr (6, fs)), (hs, .inl (cI, 380, .inl S)), (hL, .inl (cI, 46, .inl ((zcp S L 46))))] H := hP
            have hD : va_D AA [(hE, .inl (cI, 7, .inl E)), (hN9, .inl (cI, 128, .inl NMv)), (hp, .inl (cI, 64, .inl PIv)), (h, .inr (6, fs)), (hs, .inl (cI, 380, .inl S)), (hL, .inl (cI, 46, .inl ((zcp S L 46))))] := hD
            refine lv_iload_n hx hb dX6_together_50 rfl (lv_at hl 1 rfl) ?_
            refine lv_sipush (v := nI 500) hx hb dX6_together_51 (by decide) ?_
            refine lv_icmp_gt (tgt := 61) hx hb dX6_together_54 (by decide) (fun c54_14 => ?_) (fun c54_14 => ?_)
            · have c54_14 : 500 < i := (nI_ltI (a := 500) (b := i) (by omega) (by omega)).mp c54_14
              exact absurd c54_14 (by omega)
            · have c54_14 : ¬ (500 < i) := fun h9 => c54_14 ((nI_ltI (a := 500) (b := i) (by omega) (by omega)).mpr h9)
              refine lv_iload_n hx hb dX6_together_57 rfl (lv_at hl 1 rfl) ?_
              refine lv_goto (tgt := 66) hx hb dX6_together_58 (by decide) ?_
              have hP := hP.sub (ws' := [(h, .inr (6, fs)), (hs, .inl (cI, 380, .inl S)), (hE, .inl (cI, 7, .inl E)), (hN9, .inl (cI, 128, .inl NMv)), (hp, .inl (cI, 64, .inl PIv)), (hL, .inl (cI, 46, .inl ((zcp S L 46))))]) [3, 4, 0, 1, 2, 5] rfl
              have hD := hD.sub (ws' := [(h, .inr (6, fs)), (hs, .inl (cI, 380, .inl S)), (hE, .inl (cI, 7, .inl E)), (hN9, .inl (cI, 128, .inl NMv)), (hp, .inl (cI, 64, .inl PIv)), (hL, .inl (cI, 46, .inl ((zcp S L 46))))]) [3, 4, 0, 1, 2, 5] (by decide) rfl
              exact hret hP hD hS dX6_together_66 rfl (by (have hm : zfind (zPtog (zDS S n len0 tk0 mi) k) 501 0 = i := (by rw [← hz, show 501 - i = (500 - i) + 1 by omega]; exact zfind_p (P := (zPtog (zDS S n len0 tk0 mi) k)) ((zPtog_e (S := S) (d := (zDS S n len0 tk0 mi)) (q := i) (show 0 < k by omega)).mp (by assumption)))); rw [show zo_together S E k (zDS S n len0 tk0 mi) = (nI i, S, E) from by rw [zo_together, if_neg (by omega), hm, if_pos (by omega)]]; exact ⟨_, _, _, rfl, rfl⟩)
          · have c33_11 := bI_0.mp c33_11
            refine lv_aload_n hx hb dX6_together_36 rfl (lv_at hl 0 rfl) ?_
            refine zcv (wr := [(hE, .inl (cI, 7, .inl E)), (hL, .inl (cI, 46, .inl (zcp S L 46)))]) (va_runV (As := []) (rest := []) ⟨hx, hb, hml, hown, hts⟩ (c_X6_minute l D cI cJ h hs hN9 hp fs S NMv PIv n len0 tk0 k mi i (by first | rfl | assumption | omega) (by first | rfl | assumption | omega) (by first | rfl | assumption | omega) htx0 (by first | rfl | assumption | omega) (by first | rfl | assumption | omega) (by first | rfl | assumption | omega) (by omega) H.size) (cwV 0 hts gX6_together_X6_minute rfl rfl rfl (by decide +kernel) ⟨Nat.le_of_ble_eq_true rfl, Nat.le_of_ble_eq_true rfl⟩) (zpV hK hN hZ hP hD hS hA [0, 1, 3, 4] rfl (by decide) 0 rfl rfl rfl) rfl rfl hl.1 rfl (lv_room (Nat.le_of_ble_eq_true rfl)) dX6_together_37 ⟨Nat.zero_le _, Nat.zero_le _⟩) hP hD hS hA [0, 1, 3, 4] [2, 5] rfl rfl (by decide) (by decide) (fun w_16 H locs h_15 hP hD hS => ?_)
            obtain ⟨NM9_17, PI9_18, rfl⟩ := h_15
            have hP : va_P D vwCl [(hE, .inl (cI, 7, .inl E)), (hL, .inl (cI, 46, .inl (zcp S L 46))), (h, .inr (6, fs)), (hs, .inl (cI, 380, .inl (zsm S (zDS S n len0 tk0 mi) k 0 (i + 1)))), (hN9, .inl (cI, 128, .inl NM9_17)), (hp, .inl (cI, 64, .inl PI9_18))] H := hP
            have hD : va_D AA [(hE, .inl (cI, 7, .inl E)), (hL, .inl (cI, 46, .inl (zcp S L 46))), (h, .inr (6, fs)), (hs, .inl (cI, 380, .inl (zsm S (zDS S n len0 tk0 mi) k 0 (i + 1)))), (hN9, .inl (cI, 128, .inl NM9_17)), (hp, .inl (cI, 64, .inl PI9_18))] := hD
            refine lv_iinc (v := nI (i + 1)) (lv' := [(1, .int (nI (i + 1))), (0, .ref h)]) hx hb dX6_together_40 hl (k := 1) rfl (nI_add _ _) (by decide) rfl (fun ls hl => ?_)
            refine lv_goto (tgt := 22) hx hb dX6_together_43 (by decide) ?_
            exact ih_22  (i + 1) NM9_17 PI9_18 (by omega) (by omega) (by rw [← hz, show 501 - i = (501 - (i + 1)) + 1 by omega]; exact (zfind_n (P := (zPtog (zDS S n len0 tk0 mi) k)) (fun h9 => absurd ((zPtog_e (S := S) (d := (zDS S n len0 tk0 mi)) (q := i) (show 0 < k by omega)).mpr h9) (by assumption))).symm) ls (lv_sub hl [1, 0] rfl) H locs (hP.sub [2, 3, 0, 4, 5, 1] rfl) (hD.sub [2, 3, 0, 4, 5, 1] (by decide) rfl) hS
    exact L_22 (501 + 1) 0 NM PI (by omega) (by omega) rfl ls (lv_sub hl [1, 0] rfl) _ _ (hP.sub [3, 4, 0, 1, 2, 5] rfl) (hD.sub [3, 4, 0, 1, 2, 5] (by decide) rfl) hS
  · have c7_1 : k = 0 := (nI_eq (a := k) (b := 0) (by omega) (by omega)).mp c7_1
    refine lv_aload_n hx hb dX6_together_10 rfl (lv_at hl 0 rfl) ?_
    refine lv_iconst (v := nI 3) hx hb dX6_together_11 (by decide) ?_
    refine zci (wr := [(hs, .inl (cI, 380, .inl S)), (hN9, .inl (cI, 128, .inl NM)), (hp, .inl (cI, 64, .inl PI)), (hL, .inl (cI, 46, .inl L))]) (va_runV (As := [.int (nI 3)]) (rest := []) ⟨hx, hb, hml, hown, hts⟩ (c_X6_error l D cI cJ h hE fs E 3 (by first | rfl | assumption | omega) (by first | rfl | assumption | omega) s.heap.size) (cwV 1 hts gX6_together_X6_error rfl rfl rfl (by decide +kernel) ⟨Nat.le_of_ble_eq_true rfl, Nat.le_of_ble_eq_true rfl⟩) (zpV hK hN hZ hP hD hS hA [0, 2] rfl (by decide) 0 rfl rfl rfl) rfl rfl hl.1 rfl (lv_room (Nat.le_of_ble_eq_true rfl)) dX6_together_12 ⟨Nat.zero_le _, Nat.zero_le _⟩) hP hD hS hA [0, 2] [1, 3, 4, 5] rfl rfl (by decide) (by decide) (fun r_21 w_20 H locs h_19 hP hD hS => ?_)
    obtain ⟨rfl, rfl⟩ := h_19
    have hP : va_P D vwCl [(hs, .inl (cI, 380, .inl S)), (hN9, .inl (cI, 128, .inl NM)), (hp, .inl (cI, 64, .inl PI)), (hL, .inl (cI, 46, .inl L)), (h, .inr (6, fs)), (hE, .inl (cI, 7, .inl (upd E 3 (E 3 + nI 1))))] H := hP
    have hD : va_D AA [(hs, .inl (cI, 380, .inl S)), (hN9, .inl (cI, 128, .inl NM)), (hp, .inl (cI, 64, .inl PI)), (hL, .inl (cI, 46, .inl L)), (h, .inr (6, fs)), (hE, .inl (cI, 7, .inl (upd E 3 (E 3 + nI 1))))] := hD
    have hP := hP.sub (ws' := [(h, .inr (6, fs)), (hs, .inl (cI, 380, .inl S)), (hE, .inl (cI, 7, .inl (upd E 3 (E 3 + nI 1)))), (hN9, .inl (cI, 128, .inl NM)), (hp, .inl (cI, 64, .inl PI)), (hL, .inl (cI, 46, .inl L))]) [4, 0, 5, 1, 2, 3] rfl
    have hD := hD.sub (ws' := [(h, .inr (6, fs)), (hs, .inl (cI, 380, .inl S)), (hE, .inl (cI, 7, .inl (upd E 3 (E 3 + nI 1)))), (hN9, .inl (cI, 128, .inl NM)), (hp, .inl (cI, 64, .inl PI)), (hL, .inl (cI, 46, .inl L))]) [4, 0, 5, 1, 2, 3] (by decide) rfl
    exact hret hP hD hS dX6_together_15 rfl (by rw [show zo_together S E k (zDS S n len0 tk0 mi) = zerrE 3 S E from if_pos (by omega)]; exact ⟨_, _, _, rfl, rfl⟩)
set_option maxHeartbeats 4000000 in
set_option maxRecDepth 100000 in
theorem c_X6_dispute (l : Launch) (D : va_G) (cI cJ : ClassId) (h : Nat) (hs : Nat) (hE : Nat) (fs : List Value) (S : Nat → Int32) (E : Nat → Int32) (n : Nat) (k : Nat) (hN9 : Nat) (hp : Nat) (hL : Nat) (NM : Nat → Int32) (PI : Nat → Int32) (L : Nat → Int32) (len0 : Nat) (tk0 : zTk) (mi : Nat) (hf0 : fs[0]? = some (.ref hs)) (hf4 : fs[4]? = some (.ref hE)) (hn1 : S 1 = nI n) (hk6 : S 6 = nI k) (hn4 : 4 ≤ n) (hn14 : n ≤ 14) (hkle : k ≤ 6) (hf10 : fs[10]? = some (.ref hN9)) (hf11 : fs[11]? = some (.ref hp)) (hf2 : fs[2]? = some (.ref hL)) (htx0 : zTX S 0 len0 tk0) (hmi : S 0 = nI mi) (hok : zOK (zDS S n len0 tk0 mi) k) : zMi l yX6_dispute wsX6_dispute ({ frames := 6, cells := 0, slots := 0, locals := 141 } : Room) D [(cI, .int), (cJ, .array .int)] [.ref h] [(h, .inr (6, fs)), (hs, .inl (cI, 380, .inl S)), (hE, .inl (cI, 7, .inl E)), (hN9, .inl (cI, 128, .inl NM)), (hp, .inl (cI, 64, .inl PI)), (hL, .inl (cI, 46, .inl L))] (fun r w => ∃ NM9 PI9 L9 : Nat → Int32, r = (zo_dispute S E k (zDS S n len0 tk0 mi)).1 ∧ w = [(h, .inr (6, fs)), (hs, .inl (cI, 380, .inl ((zo_dispute S E k (zDS S n len0 tk0 mi)).2.1))), (hE, .inl (cI, 7, .inl ((zo_dispute S E k (zDS S n len0 tk0 mi)).2.2))), (hN9, .inl (cI, 128, .inl NM9)), (hp, .inl (cI, 64, .inl PI9)), (hL, .inl (cI, 46, .inl L9))]) := by
  refine zMi.start (cc := cX6_dispute) (maxL := 2) (rt := .int) (by first | decide | decide +kernel) rfl (Nat.le_of_ble_eq_true rfl) ?_
  intro pg ev s mt args below meth cd ls AA QQ ⟨hx, hb, hml, hr, hlocks, hown, hts, hK, hN, hZ, hP, hD, hA, hS, hl⟩ hret
  have hown : s.vm.findClass RX6 = some mt.cls := hown
  have hl : lv_has ls 2 [(0, .ref h)] := hl
  have hin6 : ∀ w ∈ wsX60, w ∈ wsX6_dispute := fun w h => List.mem_cons_of_mem _ (List.mem_append_right _ (h))
  refine lv_aload_n hx hb dX6_dispute_0 rfl (lv_at hl 0 rfl) ?_
  refine zcv (wr := [(hE, .inl (cI, 7, .inl E)), (hN9, .inl (cI, 128, .inl NM)), (hp, .inl (cI, 64, .inl PI))]) (va_runV (As := []) (rest := []) ⟨hx, hb, hml, hown, hts⟩ (c_X6_layDown l D cI cJ h hs hL fs S L (by first | rfl | assumption | omega) (by first | rfl | assumption | omega) s.heap.size) (cwV 0 hts gX6_dispute_X6_layDown rfl rfl rfl (by decide +kernel) ⟨Nat.le_of_ble_eq_true rfl, Nat.le_of_ble_eq_true rfl⟩) (zpV hK hN hZ hP hD hS hA [0, 1, 5] rfl (by decide) 0 rfl rfl rfl) rfl rfl hl.1 rfl (lv_room (Nat.le_of_ble_eq_true rfl)) dX6_dispute_1 ⟨Nat.zero_le _, Nat.zero_le _⟩) hP hD hS hA [0, 1, 5] [2, 3, 4] rfl rfl (by decide) (by decide) (fun w_2 H locs h_1 hP hD hS => ?_)
  obtain rfl := h_1
  have hP : va_P D vwCl [(hE, .inl (cI, 7, .inl E)), (hN9, .inl (cI, 128, .inl NM)), (hp, .inl (cI, 64, .inl PI)), (h, .inr (6, fs)), (hs, .inl (cI, 380, .inl S)), (hL, .inl (cI, 46, .inl (zcp S L 46)))] H := hP
  have hD : va_D AA [(hE, .inl (cI, 7, .inl E)), (hN9, .inl (cI, 128, .inl NM)), (hp, .inl (cI, 64, .inl PI)), (h, .inr (6, fs)), (hs, .inl (cI, 380, .inl S)), (hL, .inl (cI, 46, .inl (zcp S L 46)))] := hD
  have hP := zPx (i := 4) (g := zsm S (zDS S n len0 tk0 mi) k 0 0) hP rfl (fun j _ => (congrFun (zsm_start hmi hok) j).symm)
  have hD := zDx (i := 4) (g := zsm S (zDS S n len0 tk0 mi) k 0 0) hD rfl
  have hP : va_P D vwCl [(hE, .inl (cI, 7, .inl E)), (hN9, .inl (cI, 128, .inl NM)), (hp, .inl (cI, 64, .inl PI)), (h, .inr (6, fs)), (hs, .inl (cI, 380, .inl (zsm S (zDS S n len0 tk0 mi) k 0 0))), (hL, .inl (cI, 46, .inl (zcp S L 46)))] H := hP
  have hD : va_D AA [(hE, .inl (cI, 7, .inl E)), (hN9, .inl (cI, 128, .inl NM)), (hp, .inl (cI, 64, .inl PI)), (h, .inr (6, fs)), (hs, .inl (cI, 380, .inl (zsm S (zDS S n len0 tk0 mi) k 0 0))), (hL, .inl (cI, 46, .inl (zcp S L 46)))] := hD
  refine lv_iconst (v := nI 0) hx hb dX6_dispute_4 (by decide) ?_
  refine lv_istore_n (lv' := [(1, .int (nI 0)), (0, .ref h)]) hx hb dX6_dispute_5 rfl hl (by decide) rfl (fun ls hl => ?_)
  have L_6 : ∀ (fu i : Nat) (NMv : Nat → Int32) (PIv : Nat → Int32) (hi : i ≤ 201) (hn : 201 + 1 ≤ i + fu) (hz : zfind (zPdis (zDS S n len0 tk0 mi) k) (201 - i) i = zfind (zPdis (zDS S n len0 tk0 mi) k) 201 0), ∀ (ls : Array Slot), lv_has ls 2 [(0, .ref h), (1, .int (nI i))] → ∀ (H : Heap) (locs : List Loc), va_P D vwCl [(h, .inr (6, fs)), (hs, .inl (cI, 380, .inl (zsm S (zDS S n len0 tk0 mi) k 0 i))), (hE, .inl (cI, 7, .inl E)), (hN9, .inl (cI, 128, .inl NMv)), (hp, .inl (cI, 64, .inl PIv)), (hL, .inl (cI, 46, .inl (zcp S L 46)))] H → va_D AA [(h, .inr (6, fs)), (hs, .inl (cI, 380, .inl (zsm S (zDS S n len0 tk0 mi) k 0 i))), (hE, .inl (cI, 7, .inl E)), (hN9, .inl (cI, 128, .inl NMv)), (hp, .inl (cI, 64, .inl PIv)), (hL, .inl (cI, 46, .inl (zcp S L 46)))] → va_S AA s.heap H locs → W pg l ev ({ frames := 6, cells := 0, slots := 0, locals := 141 } : Room) s mt args below meth cd H locs 0 0 QQ (F0 mt 6 ls []) := by
    intro fu
    induction fu with
    | zero =>
      intro i NMv PIv hi hn
      exact absurd hn (by omega)
    | succ fu ih_6 =>
      intro i NMv PIv hi hn hz ls hl H locs hP hD hS
      refine lv_iload_n hx hb dX6_dispute_6 rfl (lv_at hl 1 rfl) ?_
      refine lv_sipush (v := nI 200) hx hb dX6_dispute_7 (by decide) ?_
      refine lv_icmp_gt (tgt := 30) hx hb dX6_dispute_10 (by decide) (fun c10_3 => ?_) (fun c10_3 => ?_)
      · have c10_3 : 200 < i := (nI_ltI (a := 200) (b := i) (by omega) (by omega)).mp c10_3
        refine lv_aload_n hx hb dX6_dispute_30 rfl (lv_at hl 0 rfl) ?_
        refine zcv (wr := [(hE, .inl (cI, 7, .inl E)), (hN9, .inl (cI, 128, .inl NMv)), (hp, .inl (cI, 64, .inl PIv))]) (va_runV (As := []) (rest := []) ⟨hx, hb, hml, hown, hts⟩ (c_X6_layBack l D cI cJ h hs hL fs (zsm S (zDS S n len0 tk0 mi) k 0 i) (zcp S L 46) (by first | rfl | assumption | omega) (by first | rfl | assumption | omega) H.size) (cwV 0 hts gX6_dispute_X6_layBack rfl rfl rfl (by decide +kernel) ⟨Nat.le_of_ble_eq_true rfl, Nat.le_of_ble_eq_true rfl⟩) (zpV hK hN hZ hP hD hS hA [0, 1, 5] rfl (by decide) 0 rfl rfl rfl) rfl rfl hl.1 rfl (lv_room (Nat.le_of_ble_eq_true rfl)) dX6_dispute_31 ⟨Nat.zero_le _, Nat.zero_le _⟩) hP hD hS hA [0, 1, 5] [2, 3, 4] rfl rfl (by decide) (by decide) (fun w_5 H locs h_4 hP hD hS => ?_)
        obtain rfl := h_4
        have hP : va_P D vwCl [(hE, .inl (cI, 7, .inl E)), (hN9, .inl (cI, 128, .inl NMv)), (hp, .inl (cI, 64, .inl PIv)), (h, .inr (6, fs)), (hs, .inl (cI, 380, .inl (zcp (zcp S L 46) (zsm S (zDS S n len0 tk0 mi) k 0 i) 46))), (hL, .inl (cI, 46, .inl ((zcp S L 46))))] H := hP
        have hD : va_D AA [(hE, .inl (cI, 7, .inl E)), (hN9, .inl (cI, 128, .inl NMv)), (hp, .inl (cI, 64, .inl PIv)), (h, .inr (6, fs)), (hs, .inl (cI, 380, .inl (zcp (zcp S L 46) (zsm S (zDS S n len0 tk0 mi) k 0 i) 46))), (hL, .inl (cI, 46, .inl ((zcp S L 46))))] := hD
        have hP := zPx (i := 4) (g := S) hP rfl (fun j _ => congrFun (zback hkle) j)
        have hD := zDx (i := 4) (g := S) hD rfl
        have hP : va_P D vwCl [(hE, .inl (cI, 7, .inl E)), (hN9, .inl (cI, 128, .inl NMv)), (hp, .inl (cI, 64, .inl PIv)), (h, .inr (6, fs)), (hs, .inl (cI, 380, .inl S)), (hL, .inl (cI, 46, .inl ((zcp S L 46))))] H := hP
        have hD : va_D AA [(hE, .inl (cI, 7, .inl E)), (hN9, .inl (cI, 128, .inl NMv)), (hp, .inl (cI, 64, .inl PIv)), (h, .inr (6, fs)), (hs, .inl (cI, 380, .inl S)), (hL, .inl (cI, 46, .inl ((zcp S L 46))))] := hD
        refine lv_iload_n hx hb dX6_dispute_34 rfl (lv_at hl 1 rfl) ?_
        refine lv_sipush (v := nI 200) hx hb dX6_dispute_35 (by decide) ?_
        refine lv_icmp_gt (tgt := 45) hx hb dX6_dispute_38 (by decide) (fun c38_6 => ?_) (fun c38_6 => ?_)
        · have c38_6 : 200 < i := (nI_ltI (a := 200) (b := i) (by omega) (by omega)).mp c38_6
          refine lv_aload_n hx hb dX6_dispute_45 rfl (lv_at hl 0 rfl) ?_
          refine lv_iconst (v := nI 2) hx hb dX6_dispute_46 (by decide) ?_
          refine zci (wr := [(hN9, .inl (cI, 128, .inl NMv)), (hp, .inl (cI, 64, .inl PIv)), (hs, .inl (cI, 380, .inl S)), (hL, .inl (cI, 46, .inl ((zcp S L 46))))]) (va_runV (As := [.int (nI 2)]) (rest := []) ⟨hx, hb, hml, hown, hts⟩ (c_X6_error l D cI cJ h hE fs E 2 (by first | rfl | assumption | omega) (by first | rfl | assumption | omega) H.size) (cwV 1 hts gX6_dispute_X6_error rfl rfl rfl (by decide +kernel) ⟨Nat.le_of_ble_eq_true rfl, Nat.le_of_ble_eq_true rfl⟩) (zpV hK hN hZ hP hD hS hA [3, 0] rfl (by decide) 3 rfl rfl rfl) rfl rfl hl.1 rfl (lv_room (Nat.le_of_ble_eq_true rfl)) dX6_dispute_47 ⟨Nat.zero_le _, Nat.zero_le _⟩) hP hD hS hA [3, 0] [1, 2, 4, 5] rfl rfl (by decide) (by decide) (fun r_9 w_8 H locs h_7 hP hD hS => ?_)
          obtain ⟨rfl, rfl⟩ := h_7
          have hP : va_P D vwCl [(hN9, .inl (cI, 128, .inl NMv)), (hp, .inl (cI, 64, .inl PIv)), (hs, .inl (cI, 380, .inl S)), (hL, .inl (cI, 46, .inl ((zcp S L 46)))), (h, .inr (6, fs)), (hE, .inl (cI, 7, .inl (upd E 2 (E 2 + nI 1))))] H := hP
          have hD : va_D AA [(hN9, .inl (cI, 128, .inl NMv)), (hp, .inl (cI, 64, .inl PIv)), (hs, .inl (cI, 380, .inl S)), (hL, .inl (cI, 46, .inl ((zcp S L 46)))), (h, .inr (6, fs)), (hE, .inl (cI, 7, .inl (upd E 2 (E 2 + nI 1))))] := hD
          have hP := hP.sub (ws' := [(h, .inr (6, fs)), (hs, .inl (cI, 380, .inl S)), (hE, .inl (cI, 7, .inl (upd E 2 (E 2 + nI 1)))), (hN9, .inl (cI, 128, .inl NMv)), (hp, .inl (cI, 64, .inl PIv)), (hL, .inl (cI, 46, .inl ((zcp S L 46))))]) [4, 2, 5, 0, 1, 3] rfl
          have hD := hD.sub (ws' := [(h, .inr (6, fs)), (hs, .inl (cI, 380, .inl S)), (hE, .inl (cI, 7, .inl (upd E 2 (E 2 + nI 1)))), (hN9, .inl (cI, 128, .inl NMv)), (hp, .inl (cI, 64, .inl PIv)), (hL, .inl (cI, 46, .inl ((zcp S L 46))))]) [4, 2, 5, 0, 1, 3] (by decide) rfl
          exact hret hP hD hS dX6_dispute_50 rfl (by (have hm : zfind (zPdis (zDS S n len0 tk0 mi) k) 201 0 = 201 := (by rw [← hz, show 201 - i = 0 by omega]; exact (show i = 201 by omega))); rw [show zo_dispute S E k (zDS S n len0 tk0 mi) = zerrE 2 S E from by rw [zo_dispute, hm, if_neg (by decide)]]; exact ⟨_, _, _, rfl, rfl⟩)
        · have c38_6 : ¬ (200 < i) := fun h9 => c38_6 ((nI_ltI (a := 200) (b := i) (by omega) (by omega)).mpr h9)
          exact absurd c38_6 (by omega)
      · have c10_3 : ¬ (200 < i) := fun h9 => c10_3 ((nI_ltI (a := 200) (b := i) (by omega) (by omega)).mpr h9)
        refine lv_aload_n hx hb dX6_dispute_13 rfl (lv_at hl 0 rfl) ?_
        refine zcsE (va_runV (As := []) (rest := []) ⟨hx, hb, hml, hown, hts⟩ (c_X6_doDispute l D cI cJ h hs fs (zsm S (zDS S n len0 tk0 mi) k 0 i) k (by first | rfl | assumption | omega) (by rw [zsm_o (by omega) (by omega)]; exact hk6) (by first | rfl | assumption | omega) H.size) (cwV 0 hts gX6_dispute_X6_doDispute rfl rfl rfl (by decide +kernel) ⟨Nat.le_of_ble_eq_true rfl, Nat.le_of_ble_eq_true rfl⟩) (zpV hK hN hZ hP hD hS hA [0, 1] rfl (by decide) 0 rfl rfl rfl) rfl rfl hl.1 rfl (lv_room (Nat.le_of_ble_eq_true rfl)) dX6_dispute_14 ⟨Nat.zero_le _, Nat.zero_le _⟩) ?_
        refine lv_if_ne (tgt := 30) hx hb dX6_dispute_17 (by decide) (fun c17_10 => ?_) (fun c17_10 => ?_)
        · have c17_10 := bI_nn0.mp c17_10
          refine lv_aload_n hx hb dX6_dispute_30 rfl (lv_at hl 0 rfl) ?_
          refine zcv (wr := [(hE, .inl (cI, 7, .inl E)), (hN9, .inl (cI, 128, .inl NMv)), (hp, .inl (cI, 64, .inl PIv))]) (va_runV (As := []) (rest := []) ⟨hx, hb, hml, hown, hts⟩ (c_X6_layBack l D cI cJ h hs hL fs (zsm S (zDS S n len0 tk0 mi) k 0 i) (zcp S L 46) (by first | rfl | assumption | omega) (by first | rfl | assumption | omega) H.size) (cwV 0 hts gX6_dispute_X6_layBack rfl rfl rfl (by decide +kernel) ⟨Nat.le_of_ble_eq_true rfl, Nat.le_of_ble_eq_true rfl⟩) (zpV hK hN hZ hP hD hS hA [0, 1, 5] rfl (by decide) 0 rfl rfl rfl) rfl rfl hl.1 rfl (lv_room (Nat.le_of_ble_eq_true rfl)) dX6_dispute_31 ⟨Nat.zero_le _, Nat.zero_le _⟩) hP hD hS hA [0, 1, 5] [2, 3, 4] rfl rfl (by decide) (by decide) (fun w_12 H locs h_11 hP hD hS => ?_)
          obtain rfl := h_11
          have hP : va_P D vwCl [(hE, .inl (cI, 7, .inl E)), (hN9, .inl (cI, 128, .inl NMv)), (hp, .inl (cI, 64, .inl PIv)), (h, .inr (6, fs)), (hs, .inl (cI, 380, .inl (zcp (zcp S L 46) (zsm S (zDS S n len0 tk0 mi) k 0 i) 46))), (hL, .inl (cI, 46, .inl ((zcp S L 46))))] H := hP
          have hD : va_D AA [(hE, .inl (cI, 7, .inl E)), (hN9, .inl (cI, 128, .inl NMv)), (hp, .inl (cI, 64, .inl PIv)), (h, .inr (6, fs)), (hs, .inl (cI, 380, .inl (zcp (zcp S L 46) (zsm S (zDS S n len0 tk0 mi) k 0 i) 46))), (hL, .inl (cI, 46, .inl ((zcp S L 46))))] := hD
          have hP := zPx (i := 4) (g := S) hP rfl (fun j _ => congrFun (zback hkle) j)
          have hD := zDx (i := 4) (g := S) hD rfl
          have hP : va_P D vwCl [(hE, .inl (cI, 7, .inl E)), (hN9, .inl (cI, 128, .inl NMv)), (hp, .inl (cI, 64, .inl PIv)), (h, .inr (6, fs)), (hs, .inl (cI, 380, .inl S)), (hL, .inl (cI, 46, .inl ((zcp S L 46))))] H := hP
          have hD : va_D AA [(hE, .inl (cI, 7, .inl E)), (hN9, .inl (cI, 128, .inl NMv)), (hp, .inl (cI, 64, .inl PIv)), (h, .inr (6, fs)), (hs, .inl (cI, 380, .inl S)), (hL, .inl (cI, 46, .inl ((zcp S L 46))))] := hD
          refine lv_iload_n hx hb dX6_dispute_34 rfl (lv_at hl 1 rfl) ?_
          refine lv_sipush (v := nI 200) hx hb dX6_dispute_35 (by decide) ?_
          refine lv_icmp_gt (tgt := 45) hx hb dX6_dispute_38 (by decide) (fun c38_13 => ?_) (fun c38_13 => ?_)
          · have c38_13 : 200 < i := (nI_ltI (a := 200) (b := i) (by omega) (by omega)).mp c38_13
            exact absurd c38_13 (by omega)
          · have c38_13 : ¬ (200 < i) := fun h9 => c38_13 ((nI_ltI (a := 200) (b := i) (by omega) (by omega)).mpr h9)
            refine lv_iload_n hx hb dX6_dispute_41 rfl (lv_at hl 1 rfl) ?_
            refine lv_goto (tgt := 50) hx hb dX6_dispute_42 (by decide) ?_
            have hP := hP.sub (ws' := [(h, .inr (6, fs)), (hs, .inl (cI, 380, .inl S)), (hE, .inl (cI, 7, .inl E)), (hN9, .inl (cI, 128, .inl NMv)), (hp, .inl (cI, 64, .inl PIv)), (hL, .inl (cI, 46, .inl ((zcp S L 46))))]) [3, 4, 0, 1, 2, 5] rfl
            have hD := hD.sub (ws' := [(h, .inr (6, fs)), (hs, .inl (cI, 380, .inl S)), (hE, .inl (cI, 7, .inl E)), (hN9, .inl (cI, 128, .inl NMv)), (hp, .inl (cI, 64, .inl PIv)), (hL, .inl (cI, 46, .inl ((zcp S L 46))))]) [3, 4, 0, 1, 2, 5] (by decide) rfl
            exact hret hP hD hS dX6_dispute_50 rfl (by (have hm : zfind (zPdis (zDS S n len0 tk0 mi) k) 201 0 = i := (by rw [← hz, show 201 - i = (200 - i) + 1 by omega]; exact zfind_p (P := (zPdis (zDS S n len0 tk0 mi) k)) ((zPdis_e (S := S) (d := (zDS S n len0 tk0 mi)) (k := k) (q := i)).mp (by assumption)))); rw [show zo_dispute S E k (zDS S n len0 tk0 mi) = (nI i, S, E) from by rw [zo_dispute, hm, if_pos (by omega)]]; exact ⟨_, _, _, rfl, rfl⟩)
        · have c17_10 := bI_nX0.mp c17_10
          refine lv_aload_n hx hb dX6_dispute_20 rfl (lv_at hl 0 rfl) ?_
          refine zcv (wr := [(hE, .inl (cI, 7, .inl E)), (hL, .inl (cI, 46, .inl (zcp S L 46)))]) (va_runV (As := []) (rest := []) ⟨hx, hb, hml, hown, hts⟩ (c_X6_minute l D cI cJ h hs hN9 hp fs S NMv PIv n len0 tk0 k mi i (by first | rfl | assumption | omega) (by first | rfl | assumption | omega) (by first | rfl | assumption | omega) htx0 (by first | rfl | assumption | omega) (by first | rfl | assumption | omega) (by first | rfl | assumption | omega) (by omega) H.size) (cwV 0 hts gX6_dispute_X6_minute rfl rfl rfl (by decide +kernel) ⟨Nat.le_of_ble_eq_true rfl, Nat.le_of_ble_eq_true rfl⟩) (zpV hK hN hZ hP hD hS hA [0, 1, 3, 4] rfl (by decide) 0 rfl rfl rfl) rfl rfl hl.1 rfl (lv_room (Nat.le_of_ble_eq_true rfl)) dX6_dispute_21 ⟨Nat.zero_le _, Nat.zero_le _⟩) hP hD hS hA [0, 1, 3, 4] [2, 5] rfl rfl (by decide) (by decide) (fun w_15 H locs h_14 hP hD hS => ?_)
          obtain ⟨NM9_16, PI9_17, rfl⟩ := h_14
          have hP : va_P D vwCl [(hE, .inl (cI, 7, .inl E)), (hL, .inl (cI, 46, .inl (zcp S L 46))), (h, .inr (6, fs)), (hs, .inl (cI, 380, .inl (zsm S (zDS S n len0 tk0 mi) k 0 (i + 1)))), (hN9, .inl (cI, 128, .inl NM9_16)), (hp, .inl (cI, 64, .inl PI9_17))] H := hP
          have hD : va_D AA [(hE, .inl (cI, 7, .inl E)), (hL, .inl (cI, 46, .inl (zcp S L 46))), (h, .inr (6, fs)), (hs, .inl (cI, 380, .inl (zsm S (zDS S n len0 tk0 mi) k 0 (i + 1)))), (hN9, .inl (cI, 128, .inl NM9_16)), (hp, .inl (cI, 64, .inl PI9_17))] := hD
          refine lv_iinc (v := nI (i + 1)) (lv' := [(1, .int (nI (i + 1))), (0, .ref h)]) hx hb dX6_dispute_24 hl (k := 1) rfl (nI_add _ _) (by decide) rfl (fun ls hl => ?_)
          refine lv_goto (tgt := 6) hx hb dX6_dispute_27 (by decide) ?_
          exact ih_6  (i + 1) NM9_16 PI9_17 (by omega) (by omega) (by rw [← hz, show 201 - i = (201 - (i + 1)) + 1 by omega]; exact (zfind_n (P := (zPdis (zDS S n len0 tk0 mi) k)) (fun h9 => ((zPdis_e (S := S) (d := (zDS S n len0 tk0 mi)) (k := k) (q := i)).mpr h9) (by assumption))).symm) ls (lv_sub hl [1, 0] rfl) H locs (hP.sub [2, 3, 0, 4, 5, 1] rfl) (hD.sub [2, 3, 0, 4, 5, 1] (by decide) rfl) hS
  exact L_6 (201 + 1) 0 NM PI (by omega) (by omega) rfl ls (lv_sub hl [1, 0] rfl) _ _ (hP.sub [3, 4, 0, 1, 2, 5] rfl) (hD.sub [3, 4, 0, 1, 2, 5] (by decide) rfl) hS
set_option maxHeartbeats 4000000 in
set_option maxRecDepth 100000 in
theorem c_X6_best (l : Launch) (D : va_G) (cI cJ : ClassId) (h : Nat) (hs : Nat) (hE : Nat) (fs : List Value) (S : Nat → Int32) (E : Nat → Int32) (n : Nat) (k : Nat) (hN9 : Nat) (hp : Nat) (hL : Nat) (NM : Nat → Int32) (PI : Nat → Int32) (L : Nat → Int32) (len0 : Nat) (tk0 : zTk) (mi : Nat) (len1 : Nat) (tk1 : zTk) (climber : Int32) (v : Int32) (what : Int32) (hf0 : fs[0]? = some (.ref hs)) (hf4 : fs[4]? = some (.ref hE)) (hn1 : S 1 = nI n) (hk6 : S 6 = nI k) (hn4 : 4 ≤ n) (hn14 : n ≤ 14) (hkle : k ≤ 6) (hf10 : fs[10]? = some (.ref hN9)) (hf11 : fs[11]? = some (.ref hp)) (hf2 : fs[2]? = some (.ref hL)) (htx0 : zTX S 0 len0 tk0) (hmi : S 0 = nI mi) (hok : zOK (zDS S n len0 tk0 mi) k) (htx1 : zTX S 1 len1 tk1) (hwf1 : zWF len1 tk1) : zMi l yX6_best wsX6_best ({ frames := 6, cells := 0, slots := 0, locals := 141 } : Room) D [(cI, .int), (cJ, .array .int)] [.ref h, .int climber, .int v, .int what] [(h, .inr (6, fs)), (hs, .inl (cI, 380, .inl S)), (hE, .inl (cI, 7, .inl E)), (hN9, .inl (cI, 128, .inl NM)), (hp, .inl (cI, 64, .inl PI)), (hL, .inl (cI, 46, .inl L))] (fun r w => ∃ NM9 PI9 L9 : Nat → Int32, r = (zo_best S E k (zDS S n len0 tk0 mi) len1 tk1 climber v what).1 ∧ w = [(h, .inr (6, fs)), (hs, .inl (cI, 380, .inl ((zo_best S E k (zDS S n len0 tk0 mi) len1 tk1 climber v what).2.1))), (hE, .inl (cI, 7, .inl ((zo_best S E k (zDS S n len0 tk0 mi) len1 tk1 climber v what).2.2))), (hN9, .inl (cI, 128, .inl NM9)), (hp, .inl (cI, 64, .inl PI9)), (hL, .inl (cI, 46, .inl L9))]) := by
  refine zMi.start (cc := cX6_best) (maxL := 9) (rt := .int) (by first | decide | decide +kernel) rfl (Nat.le_of_ble_eq_true rfl) ?_
  intro pg ev s mt args below meth cd ls AA QQ ⟨hx, hb, hml, hr, hlocks, hown, hts, hK, hN, hZ, hP, hD, hA, hS, hl⟩ hret
  have hown : s.vm.findClass RX6 = some mt.cls := hown
  have hl : lv_has ls 9 [(0, .ref h), (1, .int climber), (2, .int v), (3, .int what)] := hl
  have hin6 : ∀ w ∈ wsX60, w ∈ wsX6_best := fun w h => List.mem_cons_of_mem _ (List.mem_append_right _ (h))
  refine lv_aload_n hx hb dX6_best_0 rfl (lv_at hl 0 rfl) ?_
  refine lv_iload_n hx hb dX6_best_1 rfl (lv_at hl 1 rfl) ?_
  refine zcsE (va_runV (As := [.int climber]) (rest := []) ⟨hx, hb, hml, hown, hts⟩ (c_X6_isClimber l D cI cJ h hs fs S k climber (by first | rfl | assumption | omega) (by first | rfl | assumption | omega) (by first | rfl | assumption | omega) s.heap.size) (cwV 1 hts gX6_best_X6_isClimber rfl rfl rfl (by decide +kernel) ⟨Nat.le_of_ble_eq_true rfl, Nat.le_of_ble_eq_true rfl⟩) (zpV hK hN hZ hP hD hS hA [0, 1] rfl (by decide) 0 rfl rfl rfl) rfl rfl hl.1 rfl (lv_room (Nat.le_of_ble_eq_true rfl)) dX6_best_2 ⟨Nat.zero_le _, Nat.zero_le _⟩) ?_
  refine lv_if_eq (tgt := 27) hx hb dX6_best_5 (by decide) (fun c5_1 => ?_) (fun c5_1 => ?_)
  · have c5_1 := bI_0.mp c5_1
    refine lv_aload_n hx hb dX6_best_27 rfl (lv_at hl 0 rfl) ?_
    refine lv_iconst (v := nI 1) hx hb dX6_best_28 (by decide) ?_
    refine zci (wr := [(hs, .inl (cI, 380, .inl S)), (hN9, .inl (cI, 128, .inl NM)), (hp, .inl (cI, 64, .inl PI)), (hL, .inl (cI, 46, .inl L))]) (va_runV (As := [.int (nI 1)]) (rest := []) ⟨hx, hb, hml, hown, hts⟩ (c_X6_error l D cI cJ h hE fs E 1 (by first | rfl | assumption | omega) (by first | rfl | assumption | omega) s.heap.size) (cwV 1 hts gX6_best_X6_error rfl rfl rfl (by decide +kernel) ⟨Nat.le_of_ble_eq_true rfl, Nat.le_of_ble_eq_true rfl⟩) (zpV hK hN hZ hP hD hS hA [0, 2] rfl (by decide) 0 rfl rfl rfl) rfl rfl hl.1 rfl (lv_room (Nat.le_of_ble_eq_true rfl)) dX6_best_29 ⟨Nat.zero_le _, Nat.zero_le _⟩) hP hD hS hA [0, 2] [1, 3, 4, 5] rfl rfl (by decide) (by decide) (fun r_4 w_3 H locs h_2 hP hD hS => ?_)
    obtain ⟨rfl, rfl⟩ := h_2
    have hP : va_P D vwCl [(hs, .inl (cI, 380, .inl S)), (hN9, .inl (cI, 128, .inl NM)), (hp, .inl (cI, 64, .inl PI)), (hL, .inl (cI, 46, .inl L)), (h, .inr (6, fs)), (hE, .inl (cI, 7, .inl (upd E 1 (E 1 + nI 1))))] H := hP
    have hD : va_D AA [(hs, .inl (cI, 380, .inl S)), (hN9, .inl (cI, 128, .inl NM)), (hp, .inl (cI, 64, .inl PI)), (hL, .inl (cI, 46, .inl L)), (h, .inr (6, fs)), (hE, .inl (cI, 7, .inl (upd E 1 (E 1 + nI 1))))] := hD
    have hP := hP.sub (ws' := [(h, .inr (6, fs)), (hs, .inl (cI, 380, .inl S)), (hE, .inl (cI, 7, .inl (upd E 1 (E 1 + nI 1)))), (hN9, .inl (cI, 128, .inl NM)), (hp, .inl (cI, 64, .inl PI)), (hL, .inl (cI, 46, .inl L))]) [4, 0, 5, 1, 2, 3] rfl
    have hD := hD.sub (ws' := [(h, .inr (6, fs)), (hs, .inl (cI, 380, .inl S)), (hE, .inl (cI, 7, .inl (upd E 1 (E 1 + nI 1)))), (hN9, .inl (cI, 128, .inl NM)), (hp, .inl (cI, 64, .inl PI)), (hL, .inl (cI, 46, .inl L))]) [4, 0, 5, 1, 2, 3] (by decide) rfl
    exact hret hP hD hS dX6_best_32 rfl (by rw [show zo_best S E k (zDS S n len0 tk0 mi) len1 tk1 climber v what = zerrE 1 S E from if_neg (by intro h9; first | exact absurd h9.1 (by assumption) | exact absurd h9.2.1 (by assumption) | exact absurd h9.2.2 (by assumption))]; exact ⟨_, _, _, rfl, rfl⟩)
  · have c5_1 := bI_n0.mp c5_1
    obtain ⟨j, h_j, rfl⟩ := zin_of c5_1 (by omega)
    refine lv_iload_n hx hb dX6_best_8 rfl (lv_at hl 2 rfl) ?_
    refine lv_iconst (v := nI 0) hx hb dX6_best_9 (by decide) ?_
    refine lv_bipush (v := nI 100) hx hb dX6_best_10 (by decide) ?_
    refine zcsE (va_runS (As := [.int v, .int (nI 0), .int (nI 100)]) (rest := []) ⟨hx, hb, hml, hown, hts⟩ (d_X6_in l D cI cJ v (nI 0) (nI 100) 0 100 (by decide) (by decide) s.heap.size) (va_cwS 3 hts gX6_best_X6_in rfl rfl rfl (by decide +kernel) ⟨Nat.le_of_ble_eq_true rfl, Nat.le_of_ble_eq_true rfl⟩) (zpS hK hN hZ hP hD hS hA [] rfl (by decide)) rfl rfl hl.1 rfl (lv_room (Nat.le_of_ble_eq_true rfl)) dX6_best_12 ⟨Nat.zero_le _, Nat.zero_le _⟩) ?_
    refine lv_if_eq (tgt := 27) hx hb dX6_best_15 (by decide) (fun c15_5 => ?_) (fun c15_5 => ?_)
    · have c15_5 := bI_0.mp c15_5
      refine lv_aload_n hx hb dX6_best_27 rfl (lv_at hl 0 rfl) ?_
      refine lv_iconst (v := nI 1) hx hb dX6_best_28 (by decide) ?_
      refine zci (wr := [(hs, .inl (cI, 380, .inl S)), (hN9, .inl (cI, 128, .inl NM)), (hp, .inl (cI, 64, .inl PI)), (hL, .inl (cI, 46, .inl L))]) (va_runV (As := [.int (nI 1)]) (rest := []) ⟨hx, hb, hml, hown, hts⟩ (c_X6_error l D cI cJ h hE fs E 1 (by first | rfl | assumption | omega) (by first | rfl | assumption | omega) s.heap.size) (cwV 1 hts gX6_best_X6_error rfl rfl rfl (by decide +kernel) ⟨Nat.le_of_ble_eq_true rfl, Nat.le_of_ble_eq_true rfl⟩) (zpV hK hN hZ hP hD hS hA [0, 2] rfl (by decide) 0 rfl rfl rfl) rfl rfl hl.1 rfl (lv_room (Nat.le_of_ble_eq_true rfl)) dX6_best_29 ⟨Nat.zero_le _, Nat.zero_le _⟩) hP hD hS hA [0, 2] [1, 3, 4, 5] rfl rfl (by decide) (by decide) (fun r_8 w_7 H locs h_6 hP hD hS => ?_)
      obtain ⟨rfl, rfl⟩ := h_6
      have hP : va_P D vwCl [(hs, .inl (cI, 380, .inl S)), (hN9, .inl (cI, 128, .inl NM)), (hp, .inl (cI, 64, .inl PI)), (hL, .inl (cI, 46, .inl L)), (h, .inr (6, fs)), (hE, .inl (cI, 7, .inl (upd E 1 (E 1 + nI 1))))] H := hP
      have hD : va_D AA [(hs, .inl (cI, 380, .inl S)), (hN9, .inl (cI, 128, .inl NM)), (hp, .inl (cI, 64, .inl PI)), (hL, .inl (cI, 46, .inl L)), (h, .inr (6, fs)), (hE, .inl (cI, 7, .inl (upd E 1 (E 1 + nI 1))))] := hD
      have hP := hP.sub (ws' := [(h, .inr (6, fs)), (hs, .inl (cI, 380, .inl S)), (hE, .inl (cI, 7, .inl (upd E 1 (E 1 + nI 1)))), (hN9, .inl (cI, 128, .inl NM)), (hp, .inl (cI, 64, .inl PI)), (hL, .inl (cI, 46, .inl L))]) [4, 0, 5, 1, 2, 3] rfl
      have hD := hD.sub (ws' := [(h, .inr (6, fs)), (hs, .inl (cI, 380, .inl S)), (hE, .inl (cI, 7, .inl (upd E 1 (E 1 + nI 1)))), (hN9, .inl (cI, 128, .inl NM)), (hp, .inl (cI, 64, .inl PI)), (hL, .inl (cI, 46, .inl L))]) [4, 0, 5, 1, 2, 3] (by decide) rfl
      exact hret hP hD hS dX6_best_32 rfl (by rw [show zo_best S E k (zDS S n len0 tk0 mi) len1 tk1 (nI j) v what = zerrE 1 S E from if_neg (by intro h9; first | exact absurd h9.1 (by assumption) | exact absurd h9.2.1 (by assumption) | exact absurd h9.2.2 (by assumption))]; exact ⟨_, _, _, rfl, rfl⟩)
    · have c15_5 := bI_n0.mp c15_5
      obtain ⟨v9, h_v9, rfl⟩ : ∃ q : Nat, q ≤ 100 ∧ v = nI q := zrg_of c15_5 (by decide)
      refine lv_iload_n hx hb dX6_best_18 rfl (lv_at hl 3 rfl) ?_
      refine lv_iconst (v := nI 0) hx hb dX6_best_19 (by decide) ?_
      refine lv_iconst (v := nI 2) hx hb dX6_best_20 (by decide) ?_
      refine zcsE (va_runS (As := [.int what, .int (nI 0), .int (nI 2)]) (rest := []) ⟨hx, hb, hml, hown, hts⟩ (d_X6_in l D cI cJ what (nI 0) (nI 2) 0 2 (by decide) (by decide) s.heap.size) (va_cwS 3 hts gX6_best_X6_in rfl rfl rfl (by decide +kernel) ⟨Nat.le_of_ble_eq_true rfl, Nat.le_of_ble_eq_true rfl⟩) (zpS hK hN hZ hP hD hS hA [] rfl (by decide)) rfl rfl hl.1 rfl (lv_room (Nat.le_of_ble_eq_true rfl)) dX6_best_21 ⟨Nat.zero_le _, Nat.zero_le _⟩) ?_
      refine lv_if_ne (tgt := 33) hx hb dX6_best_24 (by decide) (fun c24_9 => ?_) (fun c24_9 => ?_)
      · have c24_9 := bI_n0.mp c24_9
        obtain ⟨w9, h_w9, rfl⟩ : ∃ q : Nat, q ≤ 2 ∧ what = nI q := zrg_of c24_9 (by decide)
        rcases (show w9 = 0 ∨ w9 = 1 ∨ w9 = 2 from by omega) with h9 | h9 | h9
        · subst h9
          refine lv_aload_n hx hb dX6_best_33 rfl (lv_at hl 0 rfl) ?_
          refine zcv (wr := [(hE, .inl (cI, 7, .inl E)), (hN9, .inl (cI, 128, .inl NM)), (hp, .inl (cI, 64, .inl PI))]) (va_runV (As := []) (rest := []) ⟨hx, hb, hml, hown, hts⟩ (c_X6_layDown l D cI cJ h hs hL fs S L (by first | rfl | assumption | omega) (by first | rfl | assumption | omega) s.heap.size) (cwV 0 hts gX6_best_X6_layDown rfl rfl rfl (by decide +kernel) ⟨Nat.le_of_ble_eq_true rfl, Nat.le_of_ble_eq_true rfl⟩) (zpV hK hN hZ hP hD hS hA [0, 1, 5] rfl (by decide) 0 rfl rfl rfl) rfl rfl hl.1 rfl (lv_room (Nat.le_of_ble_eq_true rfl)) dX6_best_34 ⟨Nat.zero_le _, Nat.zero_le _⟩) hP hD hS hA [0, 1, 5] [2, 3, 4] rfl rfl (by decide) (by decide) (fun w_11 H locs h_10 hP hD hS => ?_)
          obtain rfl := h_10
          have hP : va_P D vwCl [(hE, .inl (cI, 7, .inl E)), (hN9, .inl (cI, 128, .inl NM)), (hp, .inl (cI, 64, .inl PI)), (h, .inr (6, fs)), (hs, .inl (cI, 380, .inl S)), (hL, .inl (cI, 46, .inl (zcp S L 46)))] H := hP
          have hD : va_D AA [(hE, .inl (cI, 7, .inl E)), (hN9, .inl (cI, 128, .inl NM)), (hp, .inl (cI, 64, .inl PI)), (h, .inr (6, fs)), (hs, .inl (cI, 380, .inl S)), (hL, .inl (cI, 46, .inl (zcp S L 46)))] := hD
          have hP := zPx (i := 4) (g := zsm S (zDS S n len0 tk0 mi) k 0 0) hP rfl (fun j _ => (congrFun (zsm_start hmi hok) j).symm)
          have hD := zDx (i := 4) (g := zsm S (zDS S n len0 tk0 mi) k 0 0) hD rfl
          have hP : va_P D vwCl [(hE, .inl (cI, 7, .inl E)), (hN9, .inl (cI, 128, .inl NM)), (hp, .inl (cI, 64, .inl PI)), (h, .inr (6, fs)), (hs, .inl (cI, 380, .inl (zsm S (zDS S n len0 tk0 mi) k 0 0))), (hL, .inl (cI, 46, .inl (zcp S L 46)))] H := hP
          have hD : va_D AA [(hE, .inl (cI, 7, .inl E)), (hN9, .inl (cI, 128, .inl NM)), (hp, .inl (cI, 64, .inl PI)), (h, .inr (6, fs)), (hs, .inl (cI, 380, .inl (zsm S (zDS S n len0 tk0 mi) k 0 0))), (hL, .inl (cI, 46, .inl (zcp S L 46)))] := hD
          refine lv_iconst (v := (-1)) hx hb dX6_best_37 (by decide) ?_
          refine lv_istore (lv' := [(4, .int ((-1))), (0, .ref h), (1, .int (nI j)), (2, .int (nI v9)), (3, .int (nI 0))]) hx hb dX6_best_38 hl (by decide) rfl (fun ls hl => ?_)
          refine lv_iconst (v := nI 0) hx hb dX6_best_40 (by decide) ?_
          refine lv_istore (lv' := [(5, .int (nI 0)), (4, .int ((-1))), (0, .ref h), (1, .int (nI j)), (2, .int (nI v9)), (3, .int (nI 0))]) hx hb dX6_best_41 hl (by decide) rfl (fun ls hl => ?_)
          refine lv_iconst (v := nI 0) hx hb dX6_best_43 (by decide) ?_
          refine lv_istore (lv' := [(6, .int (nI 0)), (5, .int (nI 0)), (4, .int ((-1))), (0, .ref h), (1, .int (nI j)), (2, .int (nI v9)), (3, .int (nI 0))]) hx hb dX6_best_44 hl (by decide) rfl (fun ls hl => ?_)
          refine lv_iconst (v := nI 0) hx hb dX6_best_46 (by decide) ?_
          refine lv_istore (lv' := [(7, .int (nI 0)), (6, .int (nI 0)), (5, .int (nI 0)), (4, .int ((-1))), (0, .ref h), (1, .int (nI j)), (2, .int (nI v9)), (3, .int (nI 0))]) hx hb dX6_best_47 hl (by decide) rfl (fun ls hl => ?_)
          have L_49 : ∀ (fu i : Nat) (NMv : Nat → Int32) (PIv : Nat → Int32) (b0 : Int32) (b1 : Int32) (b2 : Int32) (hi : i ≤ (v9 + 1)) (hn : (v9 + 1) + 1 ≤ i + fu) (hb0 : b0 = (zbs (zDS S n len0 tk0 mi) k len1 tk1 j i).1) (hb1 : b1 = (zbs (zDS S n len0 tk0 mi) k len1 tk1 j i).2.1) (hb2 : b2 = (zbs (zDS S n len0 tk0 mi) k len1 tk1 j i).2.2), ∀ (ls : Array Slot), lv_has ls 9 [(0, .ref h), (1, .int (nI j)), (2, .int (nI v9)), (3, .int (nI 0)), (4, .int b0), (5, .int b1), (6, .int b2), (7, .int (nI i))] → ∀ (H : Heap) (locs : List Loc), va_P D vwCl [(h, .inr (6, fs)), (hs, .inl (cI, 380, .inl (zsm S (zDS S n len0 tk0 mi) k 0 i))), (hE, .inl (cI, 7, .inl E)), (hN9, .inl (cI, 128, .inl NMv)), (hp, .inl (cI, 64, .inl PIv)), (hL, .inl (cI, 46, .inl (zcp S L 46)))] H → va_D AA [(h, .inr (6, fs)), (hs, .inl (cI, 380, .inl (zsm S (zDS S n len0 tk0 mi) k 0 i))), (hE, .inl (cI, 7, .inl E)), (hN9, .inl (cI, 128, .inl NMv)), (hp, .inl (cI, 64, .inl PIv)), (hL, .inl (cI, 46, .inl (zcp S L 46)))] → va_S AA s.heap H locs → W pg l ev ({ frames := 6, cells := 0, slots := 0, locals := 141 } : Room) s mt args below meth cd H locs 0 0 QQ (F0 mt 49 ls []) := by
            intro fu
            induction fu with
            | zero =>
              intro i NMv PIv b0 b1 b2 hi hn
              exact absurd hn (by omega)
            | succ fu ih_49 =>
              intro i NMv PIv b0 b1 b2 hi hn hb0 hb1 hb2 ls hl H locs hP hD hS
              refine lv_iload hx hb dX6_best_49 (lv_at hl 7 rfl) ?_
              refine lv_iload_n hx hb dX6_best_51 rfl (lv_at hl 2 rfl) ?_
              refine lv_icmp_gt (tgt := 107) hx hb dX6_best_52 (by decide) (fun c52_12 => ?_) (fun c52_12 => ?_)
              · have c52_12 : v9 < i := (nI_ltI (a := v9) (b := i) (by omega) (by omega)).mp c52_12
                refine lv_aload_n hx hb dX6_best_107 rfl (lv_at hl 0 rfl) ?_
                refine zcv (wr := [(hE, .inl (cI, 7, .inl E)), (hN9, .inl (cI, 128, .inl NMv)), (hp, .inl (cI, 64, .inl PIv))]) (va_runV (As := []) (rest := []) ⟨hx, hb, hml, hown, hts⟩ (c_X6_layBack l D cI cJ h hs hL fs (zsm S (zDS S n len0 tk0 mi) k 0 i) (zcp S L 46) (by first | rfl | assumption | omega) (by first | rfl | assumption | omega) H.size) (cwV 0 hts gX6_best_X6_layBack rfl rfl rfl (by decide +kernel) ⟨Nat.le_of_ble_eq_true rfl, Nat.le_of_ble_eq_true rfl⟩) (zpV hK hN hZ hP hD hS hA [0, 1, 5] rfl (by decide) 0 rfl rfl rfl) rfl rfl hl.1 rfl (lv_room (Nat.le_of_ble_eq_true rfl)) dX6_best_108 ⟨Nat.zero_le _, Nat.zero_le _⟩) hP hD hS hA [0, 1, 5] [2, 3, 4] rfl rfl (by decide) (by decide) (fun w_14 H locs h_13 hP hD hS => ?_)
                obtain rfl := h_13
                have hP : va_P D vwCl [(hE, .inl (cI, 7, .inl E)), (hN9, .inl (cI, 128, .inl NMv)), (hp, .inl (cI, 64, .inl PIv)), (h, .inr (6, fs)), (hs, .inl (cI, 380, .inl (zcp (zcp S L 46) (zsm S (zDS S n len0 tk0 mi) k 0 i) 46))), (hL, .inl (cI, 46, .inl ((zcp S L 46))))] H := hP
                have hD : va_D AA [(hE, .inl (cI, 7, .inl E)), (hN9, .inl (cI, 128, .inl NMv)), (hp, .inl (cI, 64, .inl PIv)), (h, .inr (6, fs)), (hs, .inl (cI, 380, .inl (zcp (zcp S L 46) (zsm S (zDS S n len0 tk0 mi) k 0 i) 46))), (hL, .inl (cI, 46, .inl ((zcp S L 46))))] := hD
                have hP := zPx (i := 4) (g := S) hP rfl (fun j _ => congrFun (zback hkle) j)
                have hD := zDx (i := 4) (g := S) hD rfl
                have hP : va_P D vwCl [(hE, .inl (cI, 7, .inl E)), (hN9, .inl (cI, 128, .inl NMv)), (hp, .inl (cI, 64, .inl PIv)), (h, .inr (6, fs)), (hs, .inl (cI, 380, .inl S)), (hL, .inl (cI, 46, .inl ((zcp S L 46))))] H := hP
                have hD : va_D AA [(hE, .inl (cI, 7, .inl E)), (hN9, .inl (cI, 128, .inl NMv)), (hp, .inl (cI, 64, .inl PIv)), (h, .inr (6, fs)), (hs, .inl (cI, 380, .inl S)), (hL, .inl (cI, 46, .inl ((zcp S L 46))))] := hD
                refine lv_iload_n hx hb dX6_best_111 rfl (lv_at hl 3 rfl) ?_
                refine lv_if_ne (tgt := 120) hx hb dX6_best_112 (by decide) (fun c112_15 => ?_) (fun c112_15 => ?_)
                · have c112_15 : ¬ (0 = 0) := fun h9 => c112_15 ((nI_eq (a := 0) (b := 0) (by omega) (by omega)).mpr h9)
                  exact absurd c112_15 (by omega)
                · have c112_15 : 0 = 0 := (nI_eq (a := 0) (b := 0) (by omega) (by omega)).mp c112_15
                  refine lv_iload hx hb dX6_best_115 (lv_at hl 4 rfl) ?_
                  refine lv_goto (tgt := 132) hx hb dX6_best_117 (by decide) ?_
                  have hP := hP.sub (ws' := [(h, .inr (6, fs)), (hs, .inl (cI, 380, .inl S)), (hE, .inl (cI, 7, .inl E)), (hN9, .inl (cI, 128, .inl NMv)), (hp, .inl (cI, 64, .inl PIv)), (hL, .inl (cI, 46, .inl ((zcp S L 46))))]) [3, 4, 0, 1, 2, 5] rfl
                  have hD := hD.sub (ws' := [(h, .inr (6, fs)), (hs, .inl (cI, 380, .inl S)), (hE, .inl (cI, 7, .inl E)), (hN9, .inl (cI, 128, .inl NMv)), (hp, .inl (cI, 64, .inl PIv)), (hL, .inl (cI, 46, .inl ((zcp S L 46))))]) [3, 4, 0, 1, 2, 5] (by decide) rfl
                  exact hret hP hD hS dX6_best_132 rfl (by rw [show zo_best S E k (zDS S n len0 tk0 mi) len1 tk1 (nI j) (nI v9) (nI 0) = ((zbs (zDS S n len0 tk0 mi) k len1 tk1 j (v9 + 1)).1, S, E) from by rw [zo_best, if_pos ⟨by assumption, by assumption, by decide⟩, nI_clamp (show j < 2147483648 by omega), nI_clamp (show v9 < 2147483648 by omega), if_pos rfl]]; (have e9 : i = v9 + 1 := (by omega)); subst e9; exact ⟨_, _, _, by assumption, rfl⟩)
              · have c52_12 : ¬ (v9 < i) := fun h9 => c52_12 ((nI_ltI (a := v9) (b := i) (by omega) (by omega)).mpr h9)
                refine lv_aload_n hx hb dX6_best_55 rfl (lv_at hl 0 rfl) ?_
                refine lv_aload_n hx hb dX6_best_56 rfl (lv_at hl 0 rfl) ?_
                refine lv_iload_n hx hb dX6_best_57 rfl (lv_at hl 1 rfl) ?_
                refine lv_iconst (v := nI 2) hx hb dX6_best_58 (by decide) ?_
                refine zcsE (va_runV (As := [.int (nI j), .int (nI 2)]) (rest := [.ref h]) ⟨hx, hb, hml, hown, hts⟩ (c_X6_its l D cI cJ h hs fs (zsm S (zDS S n len0 tk0 mi) k 0 i) j 2 (by first | rfl | assumption | omega) (by first | rfl | assumption | omega) H.size) (cwV 2 hts gX6_best_X6_its rfl rfl rfl (by decide +kernel) ⟨Nat.le_of_ble_eq_true rfl, Nat.le_of_ble_eq_true rfl⟩) (zpV hK hN hZ hP hD hS hA [0, 1] rfl (by decide) 0 rfl rfl rfl) rfl rfl hl.1 rfl (lv_room (Nat.le_of_ble_eq_true rfl)) dX6_best_59 ⟨Nat.zero_le _, Nat.zero_le _⟩) ?_
                refine zrw (zsm_P (by omega)) ?_
                refine lv_aload_n hx hb dX6_best_62 rfl (lv_at hl 0 rfl) ?_
                refine lv_iload_n hx hb dX6_best_63 rfl (lv_at hl 1 rfl) ?_
                refine lv_iconst (v := nI 3) hx hb dX6_best_64 (by decide) ?_
                refine zcsE (va_runV (As := [.int (nI j), .int (nI 3)]) (rest := [.int (zPm (zDS S n len0 tk0 mi) k 0 i j), .ref h]) ⟨hx, hb, hml, hown, hts⟩ (c_X6_its l D cI cJ h hs fs (zsm S (zDS S n len0 tk0 mi) k 0 i) j 3 (by first | rfl | assumption | omega) (by first | rfl | assumption | omega) H.size) (cwV 2 hts gX6_best_X6_its rfl rfl rfl (by decide +kernel) ⟨Nat.le_of_ble_eq_true rfl, Nat.le_of_ble_eq_true rfl⟩) (zpV hK hN hZ hP hD hS hA [0, 1] rfl (by decide) 0 rfl rfl rfl) rfl rfl hl.1 rfl (lv_room (Nat.le_of_ble_eq_true rfl)) dX6_best_65 ⟨Nat.zero_le _, Nat.zero_le _⟩) ?_
                refine zrw (zsm_G (by omega)) ?_
                refine lv_iload_n hx hb dX6_best_68 rfl (lv_at hl 1 rfl) ?_
                refine zci (wr := [(hE, .inl (cI, 7, .inl E)), (hL, .inl (cI, 46, .inl (zcp S L 46)))]) (va_runV (As := [.int (zPm (zDS S n len0 tk0 mi) k 0 i j), .int (zGm (zDS S n len0 tk0 mi) k 0 i j), .int (nI j)]) (rest := []) ⟨hx, hb, hml, hown, hts⟩ (c_X6_worthTold l D cI cJ h hs hN9 hp fs (zsm S (zDS S n len0 tk0 mi) k 0 i) NMv PIv len1 tk1 (zPm (zDS S n len0 tk0 mi) k 0 i j) (zGm (zDS S n len0 tk0 mi) k 0 i j) (nI j) (by first | rfl | assumption | omega) (by first | rfl | assumption | omega) (by first | rfl | assumption | omega) (zTX_sm hkle htx1) hwf1 H.size) (cwV 3 hts gX6_best_X6_worthTold rfl rfl rfl (by decide +kernel) ⟨Nat.le_of_ble_eq_true rfl, Nat.le_of_ble_eq_true rfl⟩) (zpV hK hN hZ hP hD hS hA [0, 1, 3, 4] rfl (by decide) 0 rfl rfl rfl) rfl rfl hl.1 rfl (lv_room (Nat.le_of_ble_eq_true rfl)) dX6_best_69 ⟨Nat.zero_le _, Nat.zero_le _⟩) hP hD hS hA [0, 1, 3, 4] [2, 5] rfl rfl (by decide) (by decide) (fun r_18 w_17 H locs h_16 hP hD hS => ?_)
                obtain ⟨NM9_19, PI9_20, rfl, rfl⟩ := h_16
                have hP : va_P D vwCl [(hE, .inl (cI, 7, .inl E)), (hL, .inl (cI, 46, .inl (zcp S L 46))), (h, .inr (6, fs)), (hs, .inl (cI, 380, .inl ((zsm S (zDS S n len0 tk0 mi) k 0 i)))), (hN9, .inl (cI, 128, .inl NM9_19)), (hp, .inl (cI, 64, .inl PI9_20))] H := hP
                have hD : va_D AA [(hE, .inl (cI, 7, .inl E)), (hL, .inl (cI, 46, .inl (zcp S L 46))), (h, .inr (6, fs)), (hs, .inl (cI, 380, .inl ((zsm S (zDS S n len0 tk0 mi) k 0 i)))), (hN9, .inl (cI, 128, .inl NM9_19)), (hp, .inl (cI, 64, .inl PI9_20))] := hD
                refine lv_topi (fun v8 ev => ?_)
                refine lv_istore (lv' := [(8, .int v8), (0, .ref h), (1, .int (nI j)), (2, .int (nI v9)), (3, .int (nI 0)), (4, .int b0), (5, .int b1), (6, .int b2), (7, .int (nI i))]) hx hb dX6_best_72 hl (by decide) rfl (fun ls hl => ?_)
                refine lv_iload hx hb dX6_best_74 (lv_at hl 0 rfl) ?_
                refine lv_iload hx hb dX6_best_76 (lv_at hl 5 rfl) ?_
                refine lv_icmp_le (tgt := 97) hx hb dX6_best_78 (by decide) (fun c78_21 => ?_) (fun c78_21 => ?_)
                · refine lv_aload_n hx hb dX6_best_97 rfl (lv_at hl 1 rfl) ?_
                  refine zcv (wr := [(hE, .inl (cI, 7, .inl E)), (hL, .inl (cI, 46, .inl (zcp S L 46)))]) (va_runV (As := []) (rest := []) ⟨hx, hb, hml, hown, hts⟩ (c_X6_minute l D cI cJ h hs hN9 hp fs S NM9_19 PI9_20 n len0 tk0 k mi i (by first | rfl | assumption | omega) (by first | rfl | assumption | omega) (by first | rfl | assumption | omega) htx0 (by first | rfl | assumption | omega) (by first | rfl | assumption | omega) (by first | rfl | assumption | omega) (by omega) H.size) (cwV 0 hts gX6_best_X6_minute rfl rfl rfl (by decide +kernel) ⟨Nat.le_of_ble_eq_true rfl, Nat.le_of_ble_eq_true rfl⟩) (zpV hK hN hZ hP hD hS hA [2, 3, 4, 5] rfl (by decide) 2 rfl rfl rfl) rfl rfl hl.1 rfl (lv_room (Nat.le_of_ble_eq_true rfl)) dX6_best_98 ⟨Nat.zero_le _, Nat.zero_le _⟩) hP hD hS hA [2, 3, 4, 5] [0, 1] rfl rfl (by decide) (by decide) (fun w_23 H locs h_22 hP hD hS => ?_)
                  obtain ⟨NM9_24, PI9_25, rfl⟩ := h_22
                  have hP : va_P D vwCl [(hE, .inl (cI, 7, .inl E)), (hL, .inl (cI, 46, .inl (zcp S L 46))), (h, .inr (6, fs)), (hs, .inl (cI, 380, .inl (zsm S (zDS S n len0 tk0 mi) k 0 (i + 1)))), (hN9, .inl (cI, 128, .inl NM9_24)), (hp, .inl (cI, 64, .inl PI9_25))] H := hP
                  have hD : va_D AA [(hE, .inl (cI, 7, .inl E)), (hL, .inl (cI, 46, .inl (zcp S L 46))), (h, .inr (6, fs)), (hs, .inl (cI, 380, .inl (zsm S (zDS S n len0 tk0 mi) k 0 (i + 1)))), (hN9, .inl (cI, 128, .inl NM9_24)), (hp, .inl (cI, 64, .inl PI9_25))] := hD
                  refine lv_iinc (v := nI (i + 1)) (lv' := [(7, .int (nI (i + 1))), (8, .int v8), (0, .ref h), (1, .int (nI j)), (2, .int (nI v9)), (3, .int (nI 0)), (4, .int b0), (5, .int b1), (6, .int b2)]) hx hb dX6_best_101 hl (k := 8) rfl (nI_add _ _) (by decide) rfl (fun ls hl => ?_)
                  refine lv_goto (tgt := 49) hx hb dX6_best_104 (by decide) ?_
                  exact ih_49  (i + 1) NM9_24 PI9_25 b0 b1 b2 (by omega) (by omega) (by rw [zbs_n (show ¬ _ < _ from by simp only [i_lt, i_le] at c78_21 ⊢; rw [← hb0, ← ev]; omega)]; exact hb0) (by rw [zbs_n (show ¬ _ < _ from by simp only [i_lt, i_le] at c78_21 ⊢; rw [← hb0, ← ev]; omega)]; exact hb1) (by rw [zbs_n (show ¬ _ < _ from by simp only [i_lt, i_le] at c78_21 ⊢; rw [← hb0, ← ev]; omega)]; exact hb2) ls (lv_sub hl [2, 3, 4, 5, 6, 7, 8, 0] rfl) H locs (hP.sub [2, 3, 0, 4, 5, 1] rfl) (hD.sub [2, 3, 0, 4, 5, 1] (by decide) rfl) hS
                · refine lv_iload hx hb dX6_best_81 (lv_at hl 0 rfl) ?_
                  refine lv_istore (lv' := [(4, .int v8), (8, .int v8), (0, .ref h), (1, .int (nI j)), (2, .int (nI v9)), (3, .int (nI 0)), (5, .int b1), (6, .int b2), (7, .int (nI i))]) hx hb dX6_best_83 hl (by decide) rfl (fun ls hl => ?_)
                  refine lv_iload hx hb dX6_best_85 (lv_at hl 8 rfl) ?_
                  refine lv_istore (lv' := [(5, .int (nI i)), (4, .int v8), (8, .int v8), (0, .ref h), (1, .int (nI j)), (2, .int (nI v9)), (3, .int (nI 0)), (6, .int b2), (7, .int (nI i))]) hx hb dX6_best_87 hl (by decide) rfl (fun ls hl => ?_)
                  refine lv_aload_n hx hb dX6_best_89 rfl (lv_at hl 3 rfl) ?_
                  refine lv_iload_n hx hb dX6_best_90 rfl (lv_at hl 4 rfl) ?_
                  refine lv_iconst (v := nI 2) hx hb dX6_best_91 (by decide) ?_
                  refine zcsE (va_runV (As := [.int (nI j), .int (nI 2)]) (rest := []) ⟨hx, hb, hml, hown, hts⟩ (c_X6_its l D cI cJ h hs fs ((zsm S (zDS S n len0 tk0 mi) k 0 i)) j 2 (by first | rfl | assumption | omega) (by first | rfl | assumption | omega) H.size) (cwV 2 hts gX6_best_X6_its rfl rfl rfl (by decide +kernel) ⟨Nat.le_of_ble_eq_true rfl, Nat.le_of_ble_eq_true rfl⟩) (zpV hK hN hZ hP hD hS hA [2, 3] rfl (by decide) 2 rfl rfl rfl) rfl rfl hl.1 rfl (lv_room (Nat.le_of_ble_eq_true rfl)) dX6_best_92 ⟨Nat.zero_le _, Nat.zero_le _⟩) ?_
                  refine zrw (zsm_P (by omega)) ?_
                  refine lv_istore (lv' := [(6, .int (zPm (zDS S n len0 tk0 mi) k 0 i j)), (5, .int (nI i)), (4, .int v8), (8, .int v8), (0, .ref h), (1, .int (nI j)), (2, .int (nI v9)), (3, .int (nI 0)), (7, .int (nI i))]) hx hb dX6_best_95 hl (by decide) rfl (fun ls hl => ?_)
                  refine lv_aload_n hx hb dX6_best_97 rfl (lv_at hl 4 rfl) ?_
                  refine zcv (wr := [(hE, .inl (cI, 7, .inl E)), (hL, .inl (cI, 46, .inl (zcp S L 46)))]) (va_runV (As := []) (rest := []) ⟨hx, hb, hml, hown, hts⟩ (c_X6_minute l D cI cJ h hs hN9 hp fs S NM9_19 PI9_20 n len0 tk0 k mi i (by first | rfl | assumption | omega) (by first | rfl | assumption | omega) (by first | rfl | assumption | omega) htx0 (by first | rfl | assumption | omega) (by first | rfl | assumption | omega) (by first | rfl | assumption | omega) (by omega) H.size) (cwV 0 hts gX6_best_X6_minute rfl rfl rfl (by decide +kernel) ⟨Nat.le_of_ble_eq_true rfl, Nat.le_of_ble_eq_true rfl⟩) (zpV hK hN hZ hP hD hS hA [2, 3, 4, 5] rfl (by decide) 2 rfl rfl rfl) rfl rfl hl.1 rfl (lv_room (Nat.le_of_ble_eq_true rfl)) dX6_best_98 ⟨Nat.zero_le _, Nat.zero_le _⟩) hP hD hS hA [2, 3, 4, 5] [0, 1] rfl rfl (by decide) (by decide) (fun w_27 H locs h_26 hP hD hS => ?_)
                  obtain ⟨NM9_28, PI9_29, rfl⟩ := h_26
                  have hP : va_P D vwCl [(hE, .inl (cI, 7, .inl E)), (hL, .inl (cI, 46, .inl (zcp S L 46))), (h, .inr (6, fs)), (hs, .inl (cI, 380, .inl (zsm S (zDS S n len0 tk0 mi) k 0 (i + 1)))), (hN9, .inl (cI, 128, .inl NM9_28)), (hp, .inl (cI, 64, .inl PI9_29))] H := hP
                  have hD : va_D AA [(hE, .inl (cI, 7, .inl E)), (hL, .inl (cI, 46, .inl (zcp S L 46))), (h, .inr (6, fs)), (hs, .inl (cI, 380, .inl (zsm S (zDS S n len0 tk0 mi) k 0 (i + 1)))), (hN9, .inl (cI, 128, .inl NM9_28)), (hp, .inl (cI, 64, .inl PI9_29))] := hD
                  refine lv_iinc (v := nI (i + 1)) (lv' := [(7, .int (nI (i + 1))), (6, .int (zPm (zDS S n len0 tk0 mi) k 0 i j)), (5, .int (nI i)), (4, .int v8), (8, .int v8), (0, .ref h), (1, .int (nI j)), (2, .int (nI v9)), (3, .int (nI 0))]) hx hb dX6_best_101 hl (k := 8) rfl (nI_add _ _) (by decide) rfl (fun ls hl => ?_)
                  refine lv_goto (tgt := 49) hx hb dX6_best_104 (by decide) ?_
                  exact ih_49  (i + 1) NM9_28 PI9_29 v8 (nI i) (zPm (zDS S n len0 tk0 mi) k 0 i j) (by omega) (by omega) (by rw [zbs_p (show _ < _ from by simp only [i_lt, i_le] at c78_21 ⊢; rw [← hb0, ← ev]; omega)]; exact ev) (by rw [zbs_p (show _ < _ from by simp only [i_lt, i_le] at c78_21 ⊢; rw [← hb0, ← ev]; omega)]) (by rw [zbs_p (show _ < _ from by simp only [i_lt, i_le] at c78_21 ⊢; rw [← hb0, ← ev]; omega)]) ls (lv_sub hl [5, 6, 7, 8, 3, 2, 1, 0] rfl) H locs (hP.sub [2, 3, 0, 4, 5, 1] rfl) (hD.sub [2, 3, 0, 4, 5, 1] (by decide) rfl) hS
          exact L_49 ((v9 + 1) + 1) 0 NM PI ((-1)) (nI 0) (nI 0) (by omega) (by omega) rfl rfl rfl ls (lv_sub hl [4, 5, 6, 7, 3, 2, 1, 0] rfl) _ _ (hP.sub [3, 4, 0, 1, 2, 5] rfl) (hD.sub [3, 4, 0, 1, 2, 5] (by decide) rfl) hS
        · subst h9
          refine lv_aload_n hx hb dX6_best_33 rfl (lv_at hl 0 rfl) ?_
          refine zcv (wr := [(hE, .inl (cI, 7, .inl E)), (hN9, .inl (cI, 128, .inl NM)), (hp, .inl (cI, 64, .inl PI))]) (va_runV (As := []) (rest := []) ⟨hx, hb, hml, hown, hts⟩ (c_X6_layDown l D cI cJ h hs hL fs S L (by first | rfl | assumption | omega) (by first | rfl | assumption | omega) s.heap.size) (cwV 0 hts gX6_best_X6_layDown rfl rfl rfl (by decide +kernel) ⟨Nat.le_of_ble_eq_true rfl, Nat.le_of_ble_eq_true rfl⟩) (zpV hK hN hZ hP hD hS hA [0, 1, 5] rfl (by decide) 0 rfl rfl rfl) rfl rfl hl.1 rfl (lv_room (Nat.le_of_ble_eq_true rfl)) dX6_best_34 ⟨Nat.zero_le _, Nat.zero_le _⟩) hP hD hS hA [0, 1, 5] [2, 3, 4] rfl rfl (by decide) (by decide) (fun w_31 H locs h_30 hP hD hS => ?_)
          obtain rfl := h_30
          have hP : va_P D vwCl [(hE, .inl (cI, 7, .inl E)), (hN9, .inl (cI, 128, .inl NM)), (hp, .inl (cI, 64, .inl PI)), (h, .inr (6, fs)), (hs, .inl (cI, 380, .inl S)), (hL, .inl (cI, 46, .inl (zcp S L 46)))] H := hP
          have hD : va_D AA [(hE, .inl (cI, 7, .inl E)), (hN9, .inl (cI, 128, .inl NM)), (hp, .inl (cI, 64, .inl PI)), (h, .inr (6, fs)), (hs, .inl (cI, 380, .inl S)), (hL, .inl (cI, 46, .inl (zcp S L 46)))] := hD
          have hP := zPx (i := 4) (g := zsm S (zDS S n len0 tk0 mi) k 0 0) hP rfl (fun j _ => (congrFun (zsm_start hmi hok) j).symm)
          have hD := zDx (i := 4) (g := zsm S (zDS S n len0 tk0 mi) k 0 0) hD rfl
          have hP : va_P D vwCl [(hE, .inl (cI, 7, .inl E)), (hN9, .inl (cI, 128, .inl NM)), (hp, .inl (cI, 64, .inl PI)), (h, .inr (6, fs)), (hs, .inl (cI, 380, .inl (zsm S (zDS S n len0 tk0 mi) k 0 0))), (hL, .inl (cI, 46, .inl (zcp S L 46)))] H := hP
          have hD : va_D AA [(hE, .inl (cI, 7, .inl E)), (hN9, .inl (cI, 128, .inl NM)), (hp, .inl (cI, 64, .inl PI)), (h, .inr (6, fs)), (hs, .inl (cI, 380, .inl (zsm S (zDS S n len0 tk0 mi) k 0 0))), (hL, .inl (cI, 46, .inl (zcp S L 46)))] := hD
          refine lv_iconst (v := (-1)) hx hb dX6_best_37 (by decide) ?_
          refine lv_istore (lv' := [(4, .int ((-1))), (0, .ref h), (1, .int (nI j)), (2, .int (nI v9)), (3, .int (nI 1))]) hx hb dX6_best_38 hl (by decide) rfl (fun ls hl => ?_)
          refine lv_iconst (v := nI 0) hx hb dX6_best_40 (by decide) ?_
          refine lv_istore (lv' := [(5, .int (nI 0)), (4, .int ((-1))), (0, .ref h), (1, .int (nI j)), (2, .int (nI v9)), (3, .int (nI 1))]) hx hb dX6_best_41 hl (by decide) rfl (fun ls hl => ?_)
          refine lv_iconst (v := nI 0) hx hb dX6_best_43 (by decide) ?_
          refine lv_istore (lv' := [(6, .int (nI 0)), (5, .int (nI 0)), (4, .int ((-1))), (0, .ref h), (1, .int (nI j)), (2, .int (nI v9)), (3, .int (nI 1))]) hx hb dX6_best_44 hl (by decide) rfl (fun ls hl => ?_)
          refine lv_iconst (v := nI 0) hx hb dX6_best_46 (by decide) ?_
          refine lv_istore (lv' := [(7, .int (nI 0)), (6, .int (nI 0)), (5, .int (nI 0)), (4, .int ((-1))), (0, .ref h), (1, .int (nI j)), (2, .int (nI v9)), (3, .int (nI 1))]) hx hb dX6_best_47 hl (by decide) rfl (fun ls hl => ?_)
          have L_49 : ∀ (fu i : Nat) (NMv : Nat → Int32) (PIv : Nat → Int32) (b0 : Int32) (b1 : Int32) (b2 : Int32) (hi : i ≤ (v9 + 1)) (hn : (v9 + 1) + 1 ≤ i + fu) (hb0 : b0 = (zbs (zDS S n len0 tk0 mi) k len1 tk1 j i).1) (hb1 : b1 = (zbs (zDS S n len0 tk0 mi) k len1 tk1 j i).2.1) (hb2 : b2 = (zbs (zDS S n len0 tk0 mi) k len1 tk1 j i).2.2), ∀ (ls : Array Slot), lv_has ls 9 [(0, .ref h), (1, .int (nI j)), (2, .int (nI v9)), (3, .int (nI 1)), (4, .int b0), (5, .int b1), (6, .int b2), (7, .int (nI i))] → ∀ (H : Heap) (locs : List Loc), va_P D vwCl [(h, .inr (6, fs)), (hs, .inl (cI, 380, .inl (zsm S (zDS S n len0 tk0 mi) k 0 i))), (hE, .inl (cI, 7, .inl E)), (hN9, .inl (cI, 128, .inl NMv)), (hp, .inl (cI, 64, .inl PIv)), (hL, .inl (cI, 46, .inl (zcp S L 46)))] H → va_D AA [(h, .inr (6, fs)), (hs, .inl (cI, 380, .inl (zsm S (zDS S n len0 tk0 mi) k 0 i))), (hE, .inl (cI, 7, .inl E)), (hN9, .inl (cI, 128, .inl NMv)), (hp, .inl (cI, 64, .inl PIv)), (hL, .inl (cI, 46, .inl (zcp S L 46)))] → va_S AA s.heap H locs → W pg l ev ({ frames := 6, cells := 0, slots := 0, locals := 141 } : Room) s mt args below meth cd H locs 0 0 QQ (F0 mt 49 ls []) := by
            intro fu
            induction fu with
            | zero =>
              intro i NMv PIv b0 b1 b2 hi hn
              exact absurd hn (by omega)
            | succ fu ih_49 =>
              intro i NMv PIv b0 b1 b2 hi hn hb0 hb1 hb2 ls hl H locs hP hD hS
              refine lv_iload hx hb dX6_best_49 (lv_at hl 7 rfl) ?_
              refine lv_iload_n hx hb dX6_best_51 rfl (lv_at hl 2 rfl) ?_
              refine lv_icmp_gt (tgt := 107) hx hb dX6_best_52 (by decide) (fun c52_32 => ?_) (fun c52_32 => ?_)
              · have c52_32 : v9 < i := (nI_ltI (a := v9) (b := i) (by omega) (by omega)).mp c52_32
                refine lv_aload_n hx hb dX6_best_107 rfl (lv_at hl 0 rfl) ?_
                refine zcv (wr := [(hE, .inl (cI, 7, .inl E)), (hN9, .inl (cI, 128, .inl NMv)), (hp, .inl (cI, 64, .inl PIv))]) (va_runV (As := []) (rest := []) ⟨hx, hb, hml, hown, hts⟩ (c_X6_layBack l D cI cJ h hs hL fs (zsm S (zDS S n len0 tk0 mi) k 0 i) (zcp S L 46) (by first | rfl | assumption | omega) (by first | rfl | assumption | omega) H.size) (cwV 0 hts gX6_best_X6_layBack rfl rfl rfl (by decide +kernel) ⟨Nat.le_of_ble_eq_true rfl, Nat.le_of_ble_eq_true rfl⟩) (zpV hK hN hZ hP hD hS hA [0, 1, 5] rfl (by decide) 0 rfl rfl rfl) rfl rfl hl.1 rfl (lv_room (Nat.le_of_ble_eq_true rfl)) dX6_best_108 ⟨Nat.zero_le _, Nat.zero_le _⟩) hP hD hS hA [0, 1, 5] [2, 3, 4] rfl rfl (by decide) (by decide) (fun w_34 H locs h_33 hP hD hS => ?_)
                obtain rfl := h_33
                have hP : va_P D vwCl [(hE, .inl (cI, 7, .inl E)), (hN9, .inl (cI, 128, .inl NMv)), (hp, .inl (cI, 64, .inl PIv)), (h, .inr (6, fs)), (hs, .inl (cI, 380, .inl (zcp (zcp S L 46) (zsm S (zDS S n len0 tk0 mi) k 0 i) 46))), (hL, .inl (cI, 46, .inl ((zcp S L 46))))] H := hP
                have hD : va_D AA [(hE, .inl (cI, 7, .inl E)), (hN9, .inl (cI, 128, .inl NMv)), (hp, .inl (cI, 64, .inl PIv)), (h, .inr (6, fs)), (hs, .inl (cI, 380, .inl (zcp (zcp S L 46) (zsm S (zDS S n len0 tk0 mi) k 0 i) 46))), (hL, .inl (cI, 46, .inl ((zcp S L 46))))] := hD
                have hP := zPx (i := 4) (g := S) hP rfl (fun j _ => congrFun (zback hkle) j)
                have hD := zDx (i := 4) (g := S) hD rfl
                have hP : va_P D vwCl [(hE, .inl (cI, 7, .inl E)), (hN9, .inl (cI, 128, .inl NMv)), (hp, .inl (cI, 64, .inl PIv)), (h, .inr (6, fs)), (hs, .inl (cI, 380, .inl S)), (hL, .inl (cI, 46, .inl ((zcp S L 46))))] H := hP
                have hD : va_D AA [(hE, .inl (cI, 7, .inl E)), (hN9, .inl (cI, 128, .inl NMv)), (hp, .inl (cI, 64, .inl PIv)), (h, .inr (6, fs)), (hs, .inl (cI, 380, .inl S)), (hL, .inl (cI, 46, .inl ((zcp S L 46))))] := hD
                refine lv_iload_n hx hb dX6_best_111 rfl (lv_at hl 3 rfl) ?_
                refine lv_if_ne (tgt := 120) hx hb dX6_best_112 (by decide) (fun c112_35 => ?_) (fun c112_35 => ?_)
                · have c112_35 : ¬ (1 = 0) := fun h9 => c112_35 ((nI_eq (a := 1) (b := 0) (by omega) (by omega)).mpr h9)
                  refine lv_iload_n hx hb dX6_best_120 rfl (lv_at hl 3 rfl) ?_
                  refine lv_iconst (v := nI 1) hx hb dX6_best_121 (by decide) ?_
                  refine lv_icmp_ne (tgt := 130) hx hb dX6_best_122 (by decide) (fun c122_36 => ?_) (fun c122_36 => ?_)
                  · have c122_36 : ¬ (1 = 1) := fun h9 => c122_36 ((nI_eq (a := 1) (b := 1) (by omega) (by omega)).mpr h9)
                    exact absurd c122_36 (by omega)
                  · have c122_36 : 1 = 1 := (nI_eq (a := 1) (b := 1) (by omega) (by omega)).mp c122_36
                    refine lv_iload hx hb dX6_best_125 (lv_at hl 5 rfl) ?_
                    refine lv_goto (tgt := 132) hx hb dX6_best_127 (by decide) ?_
                    have hP := hP.sub (ws' := [(h, .inr (6, fs)), (hs, .inl (cI, 380, .inl S)), (hE, .inl (cI, 7, .inl E)), (hN9, .inl (cI, 128, .inl NMv)), (hp, .inl (cI, 64, .inl PIv)), (hL, .inl (cI, 46, .inl ((zcp S L 46))))]) [3, 4, 0, 1, 2, 5] rfl
                    have hD := hD.sub (ws' := [(h, .inr (6, fs)), (hs, .inl (cI, 380, .inl S)), (hE, .inl (cI, 7, .inl E)), (hN9, .inl (cI, 128, .inl NMv)), (hp, .inl (cI, 64, .inl PIv)), (hL, .inl (cI, 46, .inl ((zcp S L 46))))]) [3, 4, 0, 1, 2, 5] (by decide) rfl
                    exact hret hP hD hS dX6_best_132 rfl (by rw [show zo_best S E k (zDS S n len0 tk0 mi) len1 tk1 (nI j) (nI v9) (nI 1) = ((zbs (zDS S n len0 tk0 mi) k len1 tk1 j (v9 + 1)).2.1, S, E) from by rw [zo_best, if_pos ⟨by assumption, by assumption, by decide⟩, nI_clamp (show j < 2147483648 by omega), nI_clamp (show v9 < 2147483648 by omega), if_neg (by decide), if_pos rfl]]; (have e9 : i = v9 + 1 := (by omega)); subst e9; exact ⟨_, _, _, by assumption, rfl⟩)
                · have c112_35 : 1 = 0 := (nI_eq (a := 1) (b := 0) (by omega) (by omega)).mp c112_35
                  exact absurd c112_35 (by omega)
              · have c52_32 : ¬ (v9 < i) := fun h9 => c52_32 ((nI_ltI (a := v9) (b := i) (by omega) (by omega)).mpr h9)
                refine lv_aload_n hx hb dX6_best_55 rfl (lv_at hl 0 rfl) ?_
                refine lv_aload_n hx hb dX6_best_56 rfl (lv_at hl 0 rfl) ?_
                refine lv_iload_n hx hb dX6_best_57 rfl (lv_at hl 1 rfl) ?_
                refine lv_iconst (v := nI 2) hx hb dX6_best_58 (by decide) ?_
                refine zcsE (va_runV (As := [.int (nI j), .int (nI 2)]) (rest := [.ref h]) ⟨hx, hb, hml, hown, hts⟩ (c_X6_its l D cI cJ h hs fs (zsm S (zDS S n len0 tk0 mi) k 0 i) j 2 (by first | rfl | assumption | omega) (by first | rfl | assumption | omega) H.size) (cwV 2 hts gX6_best_X6_its rfl rfl rfl (by decide +kernel) ⟨Nat.le_of_ble_eq_true rfl, Nat.le_of_ble_eq_true rfl⟩) (zpV hK hN hZ hP hD hS hA [0, 1] rfl (by decide) 0 rfl rfl rfl) rfl rfl hl.1 rfl (lv_room (Nat.le_of_ble_eq_true rfl)) dX6_best_59 ⟨Nat.zero_le _, Nat.zero_le _⟩) ?_
                refine zrw (zsm_P (by omega)) ?_
                refine lv_aload_n hx hb dX6_best_62 rfl (lv_at hl 0 rfl) ?_
                refine lv_iload_n hx hb dX6_best_63 rfl (lv_at hl 1 rfl) ?_
                refine lv_iconst (v := nI 3) hx hb dX6_best_64 (by decide) ?_
                refine zcsE (va_runV (As := [.int (nI j), .int (nI 3)]) (rest := [.int (zPm (zDS S n len0 tk0 mi) k 0 i j), .ref h]) ⟨hx, hb, hml, hown, hts⟩ (c_X6_its l D cI cJ h hs fs (zsm S (zDS S n len0 tk0 mi) k 0 i) j 3 (by first | rfl | assumption | omega) (by first | rfl | assumption | omega) H.size) (cwV 2 hts gX6_best_X6_its rfl rfl rfl (by decide +kernel) ⟨Nat.le_of_ble_eq_true rfl, Nat.le_of_ble_eq_true rfl⟩) (zpV hK hN hZ hP hD hS hA [0, 1] rfl (by decide) 0 rfl rfl rfl) rfl rfl hl.1 rfl (lv_room (Nat.le_of_ble_eq_true rfl)) dX6_best_65 ⟨Nat.zero_le _, Nat.zero_le _⟩) ?_
                refine zrw (zsm_G (by omega)) ?_
                refine lv_iload_n hx hb dX6_best_68 rfl (lv_at hl 1 rfl) ?_
                refine zci (wr := [(hE, .inl (cI, 7, .inl E)), (hL, .inl (cI, 46, .inl (zcp S L 46)))]) (va_runV (As := [.int (zPm (zDS S n len0 tk0 mi) k 0 i j), .int (zGm (zDS S n len0 tk0 mi) k 0 i j), .int (nI j)]) (rest := []) ⟨hx, hb, hml, hown, hts⟩ (c_X6_worthTold l D cI cJ h hs hN9 hp fs (zsm S (zDS S n len0 tk0 mi) k 0 i) NMv PIv len1 tk1 (zPm (zDS S n len0 tk0 mi) k 0 i j) (zGm (zDS S n len0 tk0 mi) k 0 i j) (nI j) (by first | rfl | assumption | omega) (by first | rfl | assumption | omega) (by first | rfl | assumption | omega) (zTX_sm hkle htx1) hwf1 H.size) (cwV 3 hts gX6_best_X6_worthTold rfl rfl rfl (by decide +kernel) ⟨Nat.le_of_ble_eq_true rfl, Nat.le_of_ble_eq_true rfl⟩) (zpV hK hN hZ hP hD hS hA [0, 1, 3, 4] rfl (by decide) 0 rfl rfl rfl) rfl rfl hl.1 rfl (lv_room (Nat.le_of_ble_eq_true rfl)) dX6_best_69 ⟨Nat.zero_le _, Nat.zero_le _⟩) hP hD hS hA [0, 1, 3, 4] [2, 5] rfl rfl (by decide) (by decide) (fun r_39 w_38 H locs h_37 hP hD hS => ?_)
                obtain ⟨NM9_40, PI9_41, rfl, rfl⟩ := h_37
                have hP : va_P D vwCl [(hE, .inl (cI, 7, .inl E)), (hL, .inl (cI, 46, .inl (zcp S L 46))), (h, .inr (6, fs)), (hs, .inl (cI, 380, .inl ((zsm S (zDS S n len0 tk0 mi) k 0 i)))), (hN9, .inl (cI, 128, .inl NM9_40)), (hp, .inl (cI, 64, .inl PI9_41))] H := hP
                have hD : va_D AA [(hE, .inl (cI, 7, .inl E)), (hL, .inl (cI, 46, .inl (zcp S L 46))), (h, .inr (6, fs)), (hs, .inl (cI, 380, .inl ((zsm S (zDS S n len0 tk0 mi) k 0 i)))), (hN9, .inl (cI, 128, .inl NM9_40)), (hp, .inl (cI, 64, .inl PI9_41))] := hD
                refine lv_topi (fun v8 ev => ?_)
                refine lv_istore (lv' := [(8, .int v8), (0, .ref h), (1, .int (nI j)), (2, .int (nI v9)), (3, .int (nI 1)), (4, .int b0), (5, .int b1), (6, .int b2), (7, .int (nI i))]) hx hb dX6_best_72 hl (by decide) rfl (fun ls hl => ?_)
                refine lv_iload hx hb dX6_best_74 (lv_at hl 0 rfl) ?_
                refine lv_iload hx hb dX6_best_76 (lv_at hl 5 rfl) ?_
                refine lv_icmp_le (tgt := 97) hx hb dX6_best_78 (by decide) (fun c78_42 => ?_) (fun c78_42 => ?_)
                · refine lv_aload_n hx hb dX6_best_97 rfl (lv_at hl 1 rfl) ?_
                  refine zcv (wr := [(hE, .inl (cI, 7, .inl E)), (hL, .inl (cI, 46, .inl (zcp S L 46)))]) (va_runV (As := []) (rest := []) ⟨hx, hb, hml, hown, hts⟩ (c_X6_minute l D cI cJ h hs hN9 hp fs S NM9_40 PI9_41 n len0 tk0 k mi i (by first | rfl | assumption | omega) (by first | rfl | assumption | omega) (by first | rfl | assumption | omega) htx0 (by first | rfl | assumption | omega) (by first | rfl | assumption | omega) (by first | rfl | assumption | omega) (by omega) H.size) (cwV 0 hts gX6_best_X6_minute rfl rfl rfl (by decide +kernel) ⟨Nat.le_of_ble_eq_true rfl, Nat.le_of_ble_eq_true rfl⟩) (zpV hK hN hZ hP hD hS hA [2, 3, 4, 5] rfl (by decide) 2 rfl rfl rfl) rfl rfl hl.1 rfl (lv_room (Nat.le_of_ble_eq_true rfl)) dX6_best_98 ⟨Nat.zero_le _, Nat.zero_le _⟩) hP hD hS hA [2, 3, 4, 5] [0, 1] rfl rfl (by decide) (by decide) (fun w_44 H locs h_43 hP hD hS => ?_)
                  obtain ⟨NM9_45, PI9_46, rfl⟩ := h_43
                  have hP : va_P D vwCl [(hE, .inl (cI, 7, .inl E)), (hL, .inl (cI, 46, .inl (zcp S L 46))), (h, .inr (6, fs)), (hs, .inl (cI, 380, .inl (zsm S (zDS S n len0 tk0 mi) k 0 (i + 1)))), (hN9, .inl (cI, 128, .inl NM9_45)), (hp, .inl (cI, 64, .inl PI9_46))] H := hP
                  have hD : va_D AA [(hE, .inl (cI, 7, .inl E)), (hL, .inl (cI, 46, .inl (zcp S L 46))), (h, .inr (6, fs)), (hs, .inl (cI, 380, .inl (zsm S (zDS S n len0 tk0 mi) k 0 (i + 1)))), (hN9, .inl (cI, 128, .inl NM9_45)), (hp, .inl (cI, 64, .inl PI9_46))] := hD
                  refine lv_iinc (v := nI (i + 1)) (lv' := [(7, .int (nI (i + 1))), (8, .int v8), (0, .ref h), (1, .int (nI j)), (2, .int (nI v9)), (3, .int (nI 1)), (4, .int b0), (5, .int b1), (6, .int b2)]) hx hb dX6_best_101 hl (k := 8) rfl (nI_add _ _) (by decide) rfl (fun ls hl => ?_)
                  refine lv_goto (tgt := 49) hx hb dX6_best_104 (by decide) ?_
                  exact ih_49  (i + 1) NM9_45 PI9_46 b0 b1 b2 (by omega) (by omega) (by rw [zbs_n (show ¬ _ < _ from by simp only [i_lt, i_le] at c78_42 ⊢; rw [← hb0, ← ev]; omega)]; exact hb0) (by rw [zbs_n (show ¬ _ < _ from by simp only [i_lt, i_le] at c78_42 ⊢; rw [← hb0, ← ev]; omega)]; exact hb1) (by rw [zbs_n (show ¬ _ < _ from by simp only [i_lt, i_le] at c78_42 ⊢; rw [← hb0, ← ev]; omega)]; exact hb2) ls (lv_sub hl [2, 3, 4, 5, 6, 7, 8, 0] rfl) H locs (hP.sub [2, 3, 0, 4, 5, 1] rfl) (hD.sub [2, 3, 0, 4, 5, 1] (by decide) rfl) hS
                · refine lv_iload hx hb dX6_best_81 (lv_at hl 0 rfl) ?_
                  refine lv_istore (lv' := [(4, .int v8), (8, .int v8), (0, .ref h), (1, .int (nI j)), (2, .int (nI v9)), (3, .int (nI 1)), (5, .int b1), (6, .int b2), (7, .int (nI i))]) hx hb dX6_best_83 hl (by decide) rfl (fun ls hl => ?_)
                  refine lv_iload hx hb dX6_best_85 (lv_at hl 8 rfl) ?_
                  refine lv_istore (lv' := [(5, .int (nI i)), (4, .int v8), (8, .int v8), (0, .ref h), (1, .int (nI j)), (2, .int (nI v9)), (3, .int (nI 1)), (6, .int b2), (7, .int (nI i))]) hx hb dX6_best_87 hl (by decide) rfl (fun ls hl => ?_)
                  refine lv_aload_n hx hb dX6_best_89 rfl (lv_at hl 3 rfl) ?_
                  refine lv_iload_n hx hb dX6_best_90 rfl (lv_at hl 4 rfl) ?_
                  refine lv_iconst (v := nI 2) hx hb dX6_best_91 (by decide) ?_
                  refine zcsE (va_runV (As := [.int (nI j), .int (nI 2)]) (rest := []) ⟨hx, hb, hml, hown, hts⟩ (c_X6_its l D cI cJ h hs fs ((zsm S (zDS S n len0 tk0 mi) k 0 i)) j 2 (by first | rfl | assumption | omega) (by first | rfl | assumption | omega) H.size) (cwV 2 hts gX6_best_X6_its rfl rfl rfl (by decide +kernel) ⟨Nat.le_of_ble_eq_true rfl, Nat.le_of_ble_eq_true rfl⟩) (zpV hK hN hZ hP hD hS hA [2, 3] rfl (by decide) 2 rfl rfl rfl) rfl rfl hl.1 rfl (lv_room (Nat.le_of_ble_eq_true rfl)) dX6_best_92 ⟨Nat.zero_le _, Nat.zero_le _⟩) ?_
                  refine zrw (zsm_P (by omega)) ?_
                  refine lv_istore (lv' := [(6, .int (zPm (zDS S n len0 tk0 mi) k 0 i j)), (5, .int (nI i)), (4, .int v8), (8, .int v8), (0, .ref h), (1, .int (nI j)), (2, .int (nI v9)), (3, .int (nI 1)), (7, .int (nI i))]) hx hb dX6_best_95 hl (by decide) rfl (fun ls hl => ?_)
                  refine lv_aload_n hx hb dX6_best_97 rfl (lv_at hl 4 rfl) ?_
                  refine zcv (wr := [(hE, .inl (cI, 7, .inl E)), (hL, .inl (cI, 46, .inl (zcp S L 46)))]) (va_runV (As := []) (rest := []) ⟨hx, hb, hml, hown, hts⟩ (c_X6_minute l D cI cJ h hs hN9 hp fs S NM9_40 PI9_41 n len0 tk0 k mi i (by first | rfl | assumption | omega) (by first | rfl | assumption | omega) (by first | rfl | assumption | omega) htx0 (by first | rfl | assumption | omega) (by first | rfl | assumption | omega) (by first | rfl | assumption | omega) (by omega) H.size) (cwV 0 hts gX6_best_X6_minute rfl rfl rfl (by decide +kernel) ⟨Nat.le_of_ble_eq_true rfl, Nat.le_of_ble_eq_true rfl⟩) (zpV hK hN hZ hP hD hS hA [2, 3, 4, 5] rfl (by decide) 2 rfl rfl rfl) rfl rfl hl.1 rfl (lv_room (Nat.le_of_ble_eq_true rfl)) dX6_best_98 ⟨Nat.zero_le _, Nat.zero_le _⟩) hP hD hS hA [2, 3, 4, 5] [0, 1] rfl rfl (by decide) (by decide) (fun w_48 H locs h_47 hP hD hS => ?_)
                  obtain ⟨NM9_49, PI9_50, rfl⟩ := h_47
                  have hP : va_P D vwCl [(hE, .inl (cI, 7, .inl E)), (hL, .inl (cI, 46, .inl (zcp S L 46))), (h, .inr (6, fs)), (hs, .inl (cI, 380, .inl (zsm S (zDS S n len0 tk0 mi) k 0 (i + 1)))), (hN9, .inl (cI, 128, .inl NM9_49)), (hp, .inl (cI, 64, .inl PI9_50))] H := hP
                  have hD : va_D AA [(hE, .inl (cI, 7, .inl E)), (hL, .inl (cI, 46, .inl (zcp S L 46))), (h, .inr (6, fs)), (hs, .inl (cI, 380, .inl (zsm S (zDS S n len0 tk0 mi) k 0 (i + 1)))), (hN9, .inl (cI, 128, .inl NM9_49)), (hp, .inl (cI, 64, .inl PI9_50))] := hD
                  refine lv_iinc (v := nI (i + 1)) (lv' := [(7, .int (nI (i + 1))), (6, .int (zPm (zDS S n len0 tk0 mi) k 0 i j)), (5, .int (nI i)), (4, .int v8), (8, .int v8), (0, .ref h), (1, .int (nI j)), (2, .int (nI v9)), (3, .int (nI 1))]) hx hb dX6_best_101 hl (k := 8) rfl (nI_add _ _) (by decide) rfl (fun ls hl => ?_)
                  refine lv_goto (tgt := 49) hx hb dX6_best_104 (by decide) ?_
                  exact ih_49  (i + 1) NM9_49 PI9_50 v8 (nI i) (zPm (zDS S n len0 tk0 mi) k 0 i j) (by omega) (by omega) (by rw [zbs_p (show _ < _ from by simp only [i_lt, i_le] at c78_42 ⊢; rw [← hb0, ← ev]; omega)]; exact ev) (by rw [zbs_p (show _ < _ from by simp only [i_lt, i_le] at c78_42 ⊢; rw [← hb0, ← ev]; omega)]) (by rw [zbs_p (show _ < _ from by simp only [i_lt, i_le] at c78_42 ⊢; rw [← hb0, ← ev]; omega)]) ls (lv_sub hl [5, 6, 7, 8, 3, 2, 1, 0] rfl) H locs (hP.sub [2, 3, 0, 4, 5, 1] rfl) (hD.sub [2, 3, 0, 4, 5, 1] (by decide) rfl) hS
          exact L_49 ((v9 + 1) + 1) 0 NM PI ((-1)) (nI 0) (nI 0) (by omega) (by omega) rfl rfl rfl ls (lv_sub hl [4, 5, 6, 7, 3, 2, 1, 0] rfl) _ _ (hP.sub [3, 4, 0, 1, 2, 5] rfl) (hD.sub [3, 4, 0, 1, 2, 5] (by decide) rfl) hS
        · subst h9
          refine lv_aload_n hx hb dX6_best_33 rfl (lv_at hl 0 rfl) ?_
          refine zcv (wr := [(hE, .inl (cI, 7, .inl E)), (hN9, .inl (cI, 128, .inl NM)), (hp, .inl (cI, 64, .inl PI))]) (va_runV (As := []) (rest := []) ⟨hx, hb, hml, hown, hts⟩ (c_X6_layDown l D cI cJ h hs hL fs S L (by first | rfl | assumption | omega) (by first | rfl | assumption | omega) s.heap.size) (cwV 0 hts gX6_best_X6_layDown rfl rfl rfl (by decide +kernel) ⟨Nat.le_of_ble_eq_true rfl, Nat.le_of_ble_eq_true rfl⟩) (zpV hK hN hZ hP hD hS hA [0, 1, 5] rfl (by decide) 0 rfl rfl rfl) rfl rfl hl.1 rfl (lv_room (Nat.le_of_ble_eq_true rfl)) dX6_best_34 ⟨Nat.zero_le _, Nat.zero_le _⟩) hP hD hS hA [0, 1, 5] [2, 3, 4] rfl rfl (by decide) (by decide) (fun w_52 H locs h_51 hP hD hS => ?_)
          obtain rfl := h_51
          have hP : va_P D vwCl [(hE, .inl (cI, 7, .inl E)), (hN9, .inl (cI, 128, .inl NM)), (hp, .inl (cI, 64, .inl PI)), (h, .inr (6, fs)), (hs, .inl (cI, 380, .inl S)), (hL, .inl (cI, 46, .inl (zcp S L 46)))] H := hP
          have hD : va_D AA [(hE, .inl (cI, 7, .inl E)), (hN9, .inl (cI, 128, .inl NM)), (hp, .inl (cI, 64, .inl PI)), (h, .inr (6, fs)), (hs, .inl (cI, 380, .inl S)), (hL, .inl (cI, 46, .inl (zcp S L 46)))] := hD
          have hP := zPx (i := 4) (g := zsm S (zDS S n len0 tk0 mi) k 0 0) hP rfl (fun j _ => (congrFun (zsm_start hmi hok) j).symm)
          have hD := zDx (i := 4) (g := zsm S (zDS S n len0 tk0 mi) k 0 0) hD rfl
          have hP : va_P D vwCl [(hE, .inl (cI, 7, .inl E)), (hN9, .inl (cI, 128, .inl NM)), (hp, .inl (cI, 64, .inl PI)), (h, .inr (6, fs)), (hs, .inl (cI, 380, .inl (zsm S (zDS S n len0 tk0 mi) k 0 0))), (hL, .inl (cI, 46, .inl (zcp S L 46)))] H := hP
          have hD : va_D AA [(hE, .inl (cI, 7, .inl E)), (hN9, .inl (cI, 128, .inl NM)), (hp, .inl (cI, 64, .inl PI)), (h, .inr (6, fs)), (hs, .inl (cI, 380, .inl (zsm S (zDS S n len0 tk0 mi) k 0 0))), (hL, .inl (cI, 46, .inl (zcp S L 46)))] := hD
          refine lv_iconst (v := (-1)) hx hb dX6_best_37 (by decide) ?_
          refine lv_istore (lv' := [(4, .int ((-1))), (0, .ref h), (1, .int (nI j)), (2, .int (nI v9)), (3, .int (nI 2))]) hx hb dX6_best_38 hl (by decide) rfl (fun ls hl => ?_)
          refine lv_iconst (v := nI 0) hx hb dX6_best_40 (by decide) ?_
          refine lv_istore (lv' := [(5, .int (nI 0)), (4, .int ((-1))), (0, .ref h), (1, .int (nI j)), (2, .int (nI v9)), (3, .int (nI 2))]) hx hb dX6_best_41 hl (by decide) rfl (fun ls hl => ?_)
          refine lv_iconst (v := nI 0) hx hb dX6_best_43 (by decide) ?_
          refine lv_istore (lv' := [(6, .int (nI 0)), (5, .int (nI 0)), (4, .int ((-1))), (0, .ref h), (1, .int (nI j)), (2, .int (nI v9)), (3, .int (nI 2))]) hx hb dX6_best_44 hl (by decide) rfl (fun ls hl => ?_)
          refine lv_iconst (v := nI 0) hx hb dX6_best_46 (by decide) ?_
          refine lv_istore (lv' := [(7, .int (nI 0)), (6, .int (nI 0)), (5, .int (nI 0)), (4, .int ((-1))), (0, .ref h), (1, .int (nI j)), (2, .int (nI v9)), (3, .int (nI 2))]) hx hb dX6_best_47 hl (by decide) rfl (fun ls hl => ?_)
          have L_49 : ∀ (fu i : Nat) (NMv : Nat → Int32) (PIv : Nat → Int32) (b0 : Int32) (b1 : Int32) (b2 : Int32) (hi : i ≤ (v9 + 1)) (hn : (v9 + 1) + 1 ≤ i + fu) (hb0 : b0 = (zbs (zDS S n len0 tk0 mi) k len1 tk1 j i).1) (hb1 : b1 = (zbs (zDS S n len0 tk0 mi) k len1 tk1 j i).2.1) (hb2 : b2 = (zbs (zDS S n len0 tk0 mi) k len1 tk1 j i).2.2), ∀ (ls : Array Slot), lv_has ls 9 [(0, .ref h), (1, .int (nI j)), (2, .int (nI v9)), (3, .int (nI 2)), (4, .int b0), (5, .int b1), (6, .int b2), (7, .int (nI i))] → ∀ (H : Heap) (locs : List Loc), va_P D vwCl [(h, .inr (6, fs)), (hs, .inl (cI, 380, .inl (zsm S (zDS S n len0 tk0 mi) k 0 i))), (hE, .inl (cI, 7, .inl E)), (hN9, .inl (cI, 128, .inl NMv)), (hp, .inl (cI, 64, .inl PIv)), (hL, .inl (cI, 46, .inl (zcp S L 46)))] H → va_D AA [(h, .inr (6, fs)), (hs, .inl (cI, 380, .inl (zsm S (zDS S n len0 tk0 mi) k 0 i))), (hE, .inl (cI, 7, .inl E)), (hN9, .inl (cI, 128, .inl NMv)), (hp, .inl (cI, 64, .inl PIv)), (hL, .inl (cI, 46, .inl (zcp S L 46)))] → va_S AA s.heap H locs → W pg l ev ({ frames := 6, cells := 0, slots := 0, locals := 141 } : Room) s mt args below meth cd H locs 0 0 QQ (F0 mt 49 ls []) := by
            intro fu
            induction fu with
            | zero =>
              intro i NMv PIv b0 b1 b2 hi hn
              exact absurd hn (by omega)
            | succ fu ih_49 =>
              intro i NMv PIv b0 b1 b2 hi hn hb0 hb1 hb2 ls hl H locs hP hD hS
              refine lv_iload hx hb dX6_best_49 (lv_at hl 7 rfl) ?_
              refine lv_iload_n hx hb dX6_best_51 rfl (lv_at hl 2 rfl) ?_
              refine lv_icmp_gt (tgt := 107) hx hb dX6_best_52 (by decide) (fun c52_53 => ?_) (fun c52_53 => ?_)
              · have c52_53 : v9 < i := (nI_ltI (a := v9) (b := i) (by omega) (by omega)).mp c52_53
                refine lv_aload_n hx hb dX6_best_107 rfl (lv_at hl 0 rfl) ?_
                refine zcv (wr := [(hE, .inl (cI, 7, .inl E)), (hN9, .inl (cI, 128, .inl NMv)), (hp, .inl (cI, 64, .inl PIv))]) (va_runV (As := []) (rest := []) ⟨hx, hb, hml, hown, hts⟩ (c_X6_layBack l D cI cJ h hs hL fs (zsm S (zDS S n len0 tk0 mi) k 0 i) (zcp S L 46) (by first | rfl | assumption | omega) (by first | rfl | assumption | omega) H.size) (cwV 0 hts gX6_best_X6_layBack rfl rfl rfl (by decide +kernel) ⟨Nat.le_of_ble_eq_true rfl, Nat.le_of_ble_eq_true rfl⟩) (zpV hK hN hZ hP hD hS hA [0, 1, 5] rfl (by decide) 0 rfl rfl rfl) rfl rfl hl.1 rfl (lv_room (Nat.le_of_ble_eq_true rfl)) dX6_best_108 ⟨Nat.zero_le _, Nat.zero_le _⟩) hP hD hS hA [0, 1, 5] [2, 3, 4] rfl rfl (by decide) (by decide) (fun w_55 H locs h_54 hP hD hS => ?_)
                obtain rfl := h_54
                have hP : va_P D vwCl [(hE, .inl (cI, 7, .inl E)), (hN9, .inl (cI, 128, .inl NMv)), (hp, .inl (cI, 64, .inl PIv)), (h, .inr (6, fs)), (hs, .inl (cI, 380, .inl (zcp (zcp S L 46) (zsm S (zDS S n len0 tk0 mi) k 0 i) 46))), (hL, .inl (cI, 46, .inl ((zcp S L 46))))] H := hP
                have hD : va_D AA [(hE, .inl (cI, 7, .inl E)), (hN9, .inl (cI, 128, .inl NMv)), (hp, .inl (cI, 64, .inl PIv)), (h, .inr (6, fs)), (hs, .inl (cI, 380, .inl (zcp (zcp S L 46) (zsm S (zDS S n len0 tk0 mi) k 0 i) 46))), (hL, .inl (cI, 46, .inl ((zcp S L 46))))] := hD
                have hP := zPx (i := 4) (g := S) hP rfl (fun j _ => congrFun (zback hkle) j)
                have hD := zDx (i := 4) (g := S) hD rfl
                have hP : va_P D vwCl [(hE, .inl (cI, 7, .inl E)), (hN9, .inl (cI, 128, .inl NMv)), (hp, .inl (cI, 64, .inl PIv)), (h, .inr (6, fs)), (hs, .inl (cI, 380, .inl S)), (hL, .inl (cI, 46, .inl ((zcp S L 46))))] H := hP
                have hD : va_D AA [(hE, .inl (cI, 7, .inl E)), (hN9, .inl (cI, 128, .inl NMv)), (hp, .inl (cI, 64, .inl PIv)), (h, .inr (6, fs)), (hs, .inl (cI, 380, .inl S)), (hL, .inl (cI, 46, .inl ((zcp S L 46))))] := hD
                refine lv_iload_n hx hb dX6_best_111 rfl (lv_at hl 3 rfl) ?_
                refine lv_if_ne (tgt := 120) hx hb dX6_best_112 (by decide) (fun c112_56 => ?_) (fun c112_56 => ?_)
                · have c112_56 : ¬ (2 = 0) := fun h9 => c112_56 ((nI_eq (a := 2) (b := 0) (by omega) (by omega)).mpr h9)
                  refine lv_iload_n hx hb dX6_best_120 rfl (lv_at hl 3 rfl) ?_
                  refine lv_iconst (v := nI 1) hx hb dX6_best_121 (by decide) ?_
                  refine lv_icmp_ne (tgt := 130) hx hb dX6_best_122 (by decide) (fun c122_57 => ?_) (fun c122_57 => ?_)
                  · have c122_57 : ¬ (2 = 1) := fun h9 => c122_57 ((nI_eq (a := 2) (b := 1) (by omega) (by omega)).mpr h9)
                    refine lv_iload hx hb dX6_best_130 (lv_at hl 6 rfl) ?_
                    have hP := hP.sub (ws' := [(h, .inr (6, fs)), (hs, .inl (cI, 380, .inl S)), (hE, .inl (cI, 7, .inl E)), (hN9, .inl (cI, 128, .inl NMv)), (hp, .inl (cI, 64, .inl PIv)), (hL, .inl (cI, 46, .inl ((zcp S L 46))))]) [3, 4, 0, 1, 2, 5] rfl
                    have hD := hD.sub (ws' := [(h, .inr (6, fs)), (hs, .inl (cI, 380, .inl S)), (hE, .inl (cI, 7, .inl E)), (hN9, .inl (cI, 128, .inl NMv)), (hp, .inl (cI, 64, .inl PIv)), (hL, .inl (cI, 46, .inl ((zcp S L 46))))]) [3, 4, 0, 1, 2, 5] (by decide) rfl
                    exact hret hP hD hS dX6_best_132 rfl (by rw [show zo_best S E k (zDS S n len0 tk0 mi) len1 tk1 (nI j) (nI v9) (nI 2) = ((zbs (zDS S n len0 tk0 mi) k len1 tk1 j (v9 + 1)).2.2, S, E) from by rw [zo_best, if_pos ⟨by assumption, by assumption, by decide⟩, nI_clamp (show j < 2147483648 by omega), nI_clamp (show v9 < 2147483648 by omega), if_neg (by decide), if_neg (by decide)]]; (have e9 : i = v9 + 1 := (by omega)); subst e9; exact ⟨_, _, _, by assumption, rfl⟩)
                  · have c122_57 : 2 = 1 := (nI_eq (a := 2) (b := 1) (by omega) (by omega)).mp c122_57
                    exact absurd c122_57 (by omega)
                · have c112_56 : 2 = 0 := (nI_eq (a := 2) (b := 0) (by omega) (by omega)).mp c112_56
                  exact absurd c112_56 (by omega)
              · have c52_53 : ¬ (v9 < i) := fun h9 => c52_53 ((nI_ltI (a := v9) (b := i) (by omega) (by omega)).mpr h9)
                refine lv_aload_n hx hb dX6_best_55 rfl (lv_at hl 0 rfl) ?_
                refine lv_aload_n hx hb dX6_best_56 rfl (lv_at hl 0 rfl) ?_
                refine lv_iload_n hx hb dX6_best_57 rfl (lv_at hl 1 rfl) ?_
                refine lv_iconst (v := nI 2) hx hb dX6_best_58 (by decide) ?_
                refine zcsE (va_runV (As := [.int (nI j), .int (nI 2)]) (rest := [.ref h]) ⟨hx, hb, hml, hown, hts⟩ (c_X6_its l D cI cJ h hs fs (zsm S (zDS S n len0 tk0 mi) k 0 i) j 2 (by first | rfl | assumption | omega) (by first | rfl | assumption | omega) H.size) (cwV 2 hts gX6_best_X6_its rfl rfl rfl (by decide +kernel) ⟨Nat.le_of_ble_eq_true rfl, Nat.le_of_ble_eq_true rfl⟩) (zpV hK hN hZ hP hD hS hA [0, 1] rfl (by decide) 0 rfl rfl rfl) rfl rfl hl.1 rfl (lv_room (Nat.le_of_ble_eq_true rfl)) dX6_best_59 ⟨Nat.zero_le _, Nat.zero_le _⟩) ?_
                refine zrw (zsm_P (by omega)) ?_
                refine lv_aload_n hx hb dX6_best_62 rfl (lv_at hl 0 rfl) ?_
                refine lv_iload_n hx hb dX6_best_63 rfl (lv_at hl 1 rfl) ?_
                refine lv_iconst (v := nI 3) hx hb dX6_best_64 (by decide) ?_
                refine zcsE (va_runV (As := [.int (nI j), .int (nI 3)]) (rest := [.int (zPm (zDS S n len0 tk0 mi) k 0 i j), .ref h]) ⟨hx, hb, hml, hown, hts⟩ (c_X6_its l D cI cJ h hs fs (zsm S (zDS S n len0 tk0 mi) k 0 i) j 3 (by first | rfl | assumption | omega) (by first | rfl | assumption | omega) H.size) (cwV 2 hts gX6_best_X6_its rfl rfl rfl (by decide +kernel) ⟨Nat.le_of_ble_eq_true rfl, Nat.le_of_ble_eq_true rfl⟩) (zpV hK hN hZ hP hD hS hA [0, 1] rfl (by decide) 0 rfl rfl rfl) rfl rfl hl.1 rfl (lv_room (Nat.le_of_ble_eq_true rfl)) dX6_best_65 ⟨Nat.zero_le _, Nat.zero_le _⟩) ?_
                refine zrw (zsm_G (by omega)) ?_
                refine lv_iload_n hx hb dX6_best_68 rfl (lv_at hl 1 rfl) ?_
                refine zci (wr := [(hE, .inl (cI, 7, .inl E)), (hL, .inl (cI, 46, .inl (zcp S L 46)))]) (va_runV (As := [.int (zPm (zDS S n len0 tk0 mi) k 0 i j), .int (zGm (zDS S n len0 tk0 mi) k 0 i j), .int (nI j)]) (rest := []) ⟨hx, hb, hml, hown, hts⟩ (c_X6_worthTold l D cI cJ h hs hN9 hp fs (zsm S (zDS S n len0 tk0 mi) k 0 i) NMv PIv len1 tk1 (zPm (zDS S n len0 tk0 mi) k 0 i j) (zGm (zDS S n len0 tk0 mi) k 0 i j) (nI j) (by first | rfl | assumption | omega) (by first | rfl | assumption | omega) (by first | rfl | assumption | omega) (zTX_sm hkle htx1) hwf1 H.size) (cwV 3 hts gX6_best_X6_worthTold rfl rfl rfl (by decide +kernel) ⟨Nat.le_of_ble_eq_true rfl, Nat.le_of_ble_eq_true rfl⟩) (zpV hK hN hZ hP hD hS hA [0, 1, 3, 4] rfl (by decide) 0 rfl rfl rfl) rfl rfl hl.1 rfl (lv_room (Nat.le_of_ble_eq_true rfl)) dX6_best_69 ⟨Nat.zero_le _, Nat.zero_le _⟩) hP hD hS hA [0, 1, 3, 4] [2, 5] rfl rfl (by decide) (by decide) (fun r_60 w_59 H locs h_58 hP hD hS => ?_)
                obtain ⟨NM9_61, PI9_62, rfl, rfl⟩ := h_58
                have hP : va_P D vwCl [(hE, .inl (cI, 7, .inl E)), (hL, .inl (cI, 46, .inl (zcp S L 46))), (h, .inr (6, fs)), (hs, .inl (cI, 380, .inl ((zsm S (zDS S n len0 tk0 mi) k 0 i)))), (hN9, .inl (cI, 128, .inl NM9_61)), (hp, .inl (cI, 64, .inl PI9_62))] H := hP
                have hD : va_D AA [(hE, .inl (cI, 7, .inl E)), (hL, .inl (cI, 46, .inl (zcp S L 46))), (h, .inr (6, fs)), (hs, .inl (cI, 380, .inl ((zsm S (zDS S n len0 tk0 mi) k 0 i)))), (hN9, .inl (cI, 128, .inl NM9_61)), (hp, .inl (cI, 64, .inl PI9_62))] := hD
                refine lv_topi (fun v8 ev => ?_)
                refine lv_istore (lv' := [(8, .int v8), (0, .ref h), (1, .int (nI j)), (2, .int (nI v9)), (3, .int (nI 2)), (4, .int b0), (5, .int b1), (6, .int b2), (7, .int (nI i))]) hx hb dX6_best_72 hl (by decide) rfl (fun ls hl => ?_)
                refine lv_iload hx hb dX6_best_74 (lv_at hl 0 rfl) ?_
                refine lv_iload hx hb dX6_best_76 (lv_at hl 5 rfl) ?_
                refine lv_icmp_le (tgt := 97) hx hb dX6_best_78 (by decide) (fun c78_63 => ?_) (fun c78_63 => ?_)
                · refine lv_aload_n hx hb dX6_best_97 rfl (lv_at hl 1 rfl) ?_
                  refine zcv (wr := [(hE, .inl (cI, 7, .inl E)), (hL, .inl (cI, 46, .inl (zcp S L 46)))]) (va_runV (As := []) (rest := []) ⟨hx, hb, hml, hown, hts⟩ (c_X6_minute l D cI cJ h hs hN9 hp fs S NM9_61 PI9_62 n len0 tk0 k mi i (by first | rfl | assumption | omega) (by first | rfl | assumption | omega) (by first | rfl | assumption | omega) htx0 (by first | rfl | assumption | omega) (by first | rfl | assumption | omega) (by first | rfl | assumption | omega) (by omega) H.size) (cwV 0 hts gX6_best_X6_minute rfl rfl rfl (by decide +kernel) ⟨Nat.le_of_ble_eq_true rfl, Nat.le_of_ble_eq_true rfl⟩) (zpV hK hN hZ hP hD hS hA [2, 3, 4, 5] rfl (by decide) 2 rfl rfl rfl) rfl rfl hl.1 rfl (lv_room (Nat.le_of_ble_eq_true rfl)) dX6_best_98 ⟨Nat.zero_le _, Nat.zero_le _⟩) hP hD hS hA [2, 3, 4, 5] [0, 1] rfl rfl (by decide) (by decide) (fun w_65 H locs h_64 hP hD hS => ?_)
                  obtain ⟨NM9_66, PI9_67, rfl⟩ := h_64
                  have hP : va_P D vwCl [(hE, .inl (cI, 7, .inl E)), (hL, .inl (cI, 46, .inl (zcp S L 46))), (h, .inr (6, fs)), (hs, .inl (cI, 380, .inl (zsm S (zDS S n len0 tk0 mi) k 0 (i + 1)))), (hN9, .inl (cI, 128, .inl NM9_66)), (hp, .inl (cI, 64, .inl PI9_67))] H := hP
                  have hD : va_D AA [(hE, .inl (cI, 7, .inl E)), (hL, .inl (cI, 46, .inl (zcp S L 46))), (h, .inr (6, fs)), (hs, .inl (cI, 380, .inl (zsm S (zDS S n len0 tk0 mi) k 0 (i + 1)))), (hN9, .inl (cI, 128, .inl NM9_66)), (hp, .inl (cI, 64, .inl PI9_67))] := hD
                  refine lv_iinc (v := nI (i + 1)) (lv' := [(7, .int (nI (i + 1))), (8, .int v8), (0, .ref h), (1, .int (nI j)), (2, .int (nI v9)), (3, .int (nI 2)), (4, .int b0), (5, .int b1), (6, .int b2)]) hx hb dX6_best_101 hl (k := 8) rfl (nI_add _ _) (by decide) rfl (fun ls hl => ?_)
                  refine lv_goto (tgt := 49) hx hb dX6_best_104 (by decide) ?_
                  exact ih_49  (i + 1) NM9_66 PI9_67 b0 b1 b2 (by omega) (by omega) (by rw [zbs_n (show ¬ _ < _ from by simp only [i_lt, i_le] at c78_63 ⊢; rw [← hb0, ← ev]; omega)]; exact hb0) (by rw [zbs_n (show ¬ _ < _ from by simp only [i_lt, i_le] at c78_63 ⊢; rw [← hb0, ← ev]; omega)]; exact hb1) (by rw [zbs_n (show ¬ _ < _ from by simp only [i_lt, i_le] at c78_63 ⊢; rw [← hb0, ← ev]; omega)]; exact hb2) ls (lv_sub hl [2, 3, 4, 5, 6, 7, 8, 0] rfl) H locs (hP.sub [2, 3, 0, 4, 5, 1] rfl) (hD.sub [2, 3, 0, 4, 5, 1] (by decide) rfl) hS
                · refine lv_iload hx hb dX6_best_81 (lv_at hl 0 rfl) ?_
                  refine lv_istore (lv' := [(4, .int v8), (8, .int v8), (0, .ref h), (1, .int (nI j)), (2, .int (nI v9)), (3, .int (nI 2)), (5, .int b1), (6, .int b2), (7, .int (nI i))]) hx hb dX6_best_83 hl (by decide) rfl (fun ls hl => ?_)
                  refine lv_iload hx hb dX6_best_85 (lv_at hl 8 rfl) ?_
                  refine lv_istore (lv' := [(5, .int (nI i)), (4, .int v8), (8, .int v8), (0, .ref h), (1, .int (nI j)), (2, .int (nI v9)), (3, .int (nI 2)), (6, .int b2), (7, .int (nI i))]) hx hb dX6_best_87 hl (by decide) rfl (fun ls hl => ?_)
                  refine lv_aload_n hx hb dX6_best_89 rfl (lv_at hl 3 rfl) ?_
                  refine lv_iload_n hx hb dX6_best_90 rfl (lv_at hl 4 rfl) ?_
                  refine lv_iconst (v := nI 2) hx hb dX6_best_91 (by decide) ?_
                  refine zcsE (va_runV (As := [.int (nI j), .int (nI 2)]) (rest := []) ⟨hx, hb, hml, hown, hts⟩ (c_X6_its l D cI cJ h hs fs ((zsm S (zDS S n len0 tk0 mi) k 0 i)) j 2 (by first | rfl | assumption | omega) (by first | rfl | assumption | omega) H.size) (cwV 2 hts gX6_best_X6_its rfl rfl rfl (by decide +kernel) ⟨Nat.le_of_ble_eq_true rfl, Nat.le_of_ble_eq_true rfl⟩) (zpV hK hN hZ hP hD hS hA [2, 3] rfl (by decide) 2 rfl rfl rfl) rfl rfl hl.1 rfl (lv_room (Nat.le_of_ble_eq_true rfl)) dX6_best_92 ⟨Nat.zero_le _, Nat.zero_le _⟩) ?_
                  refine zrw (zsm_P (by omega)) ?_
                  refine lv_istore (lv' := [(6, .int (zPm (zDS S n len0 tk0 mi) k 0 i j)), (5, .int (nI i)), (4, .int v8), (8, .int v8), (0, .ref h), (1, .int (nI j)), (2, .int (nI v9)), (3, .int (nI 2)), (7, .int (nI i))]) hx hb dX6_best_95 hl (by decide) rfl (fun ls hl => ?_)
                  refine lv_aload_n hx hb dX6_best_97 rfl (lv_at hl 4 rfl) ?_
                  refine zcv (wr := [(hE, .inl (cI, 7, .inl E)), (hL, .inl (cI, 46, .inl (zcp S L 46)))]) (va_runV (As := []) (rest := []) ⟨hx, hb, hml, hown, hts⟩ (c_X6_minute l D cI cJ h hs hN9 hp fs S NM9_61 PI9_62 n len0 tk0 k mi i (by first | rfl | assumption | omega) (by first | rfl | assumption | omega) (by first | rfl | assumption | omega) htx0 (by first | rfl | assumption | omega) (by first | rfl | assumption | omega) (by first | rfl | assumption | omega) (by omega) H.size) (cwV 0 hts gX6_best_X6_minute rfl rfl rfl (by decide +kernel) ⟨Nat.le_of_ble_eq_true rfl, Nat.le_of_ble_eq_true rfl⟩) (zpV hK hN hZ hP hD hS hA [2, 3, 4, 5] rfl (by decide) 2 rfl rfl rfl) rfl rfl hl.1 rfl (lv_room (Nat.le_of_ble_eq_true rfl)) dX6_best_98 ⟨Nat.zero_le _, Nat.zero_le _⟩) hP hD hS hA [2, 3, 4, 5] [0, 1] rfl rfl (by decide) (by decide) (fun w_69 H locs h_68 hP hD hS => ?_)
                  obtain ⟨NM9_70, PI9_71, rfl⟩ := h_68
                  have hP : va_P D vwCl [(hE, .inl (cI, 7, .inl E)), (hL, .inl (cI, 46, .inl (zcp S L 46))), (h, .inr (6, fs)), (hs, .inl (cI, 380, .inl (zsm S (zDS S n len0 tk0 mi) k 0 (i + 1)))), (hN9, .inl (cI, 128, .inl NM9_70)), (hp, .inl (cI, 64, .inl PI9_71))] H := hP
                  have hD : va_D AA [(hE, .inl (cI, 7, .inl E)), (hL, .inl (cI, 46, .inl (zcp S L 46))), (h, .inr (6, fs)), (hs, .inl (cI, 380, .inl (zsm S (zDS S n len0 tk0 mi) k 0 (i + 1)))), (hN9, .inl (cI, 128, .inl NM9_70)), (hp, .inl (cI, 64, .inl PI9_71))] := hD
                  refine lv_iinc (v := nI (i + 1)) (lv' := [(7, .int (nI (i + 1))), (6, .int (zPm (zDS S n len0 tk0 mi) k 0 i j)), (5, .int (nI i)), (4, .int v8), (8, .int v8), (0, .ref h), (1, .int (nI j)), (2, .int (nI v9)), (3, .int (nI 2))]) hx hb dX6_best_101 hl (k := 8) rfl (nI_add _ _) (by decide) rfl (fun ls hl => ?_)
                  refine lv_goto (tgt := 49) hx hb dX6_best_104 (by decide) ?_
                  exact ih_49  (i + 1) NM9_70 PI9_71 v8 (nI i) (zPm (zDS S n len0 tk0 mi) k 0 i j) (by omega) (by omega) (by rw [zbs_p (show _ < _ from by simp only [i_lt, i_le] at c78_63 ⊢; rw [← hb0, ← ev]; omega)]; exact ev) (by rw [zbs_p (show _ < _ from by simp only [i_lt, i_le] at c78_63 ⊢; rw [← hb0, ← ev]; omega)]) (by rw [zbs_p (show _ < _ from by simp only [i_lt, i_le] at c78_63 ⊢; rw [← hb0, ← ev]; omega)]) ls (lv_sub hl [5, 6, 7, 8, 3, 2, 1, 0] rfl) H locs (hP.sub [2, 3, 0, 4, 5, 1] rfl) (hD.sub [2, 3, 0, 4, 5, 1] (by decide) rfl) hS
          exact L_49 ((v9 + 1) + 1) 0 NM PI ((-1)) (nI 0) (nI 0) (by omega) (by omega) rfl rfl rfl ls (lv_sub hl [4, 5, 6, 7, 3, 2, 1, 0] rfl) _ _ (hP.sub [3, 4, 0, 1, 2, 5] rfl) (hD.sub [3, 4, 0, 1, 2, 5] (by decide) rfl) hS
      · have c24_9 := bI_0.mp c24_9
        refine lv_aload_n hx hb dX6_best_27 rfl (lv_at hl 0 rfl) ?_
        refine lv_iconst (v := nI 1) hx hb dX6_best_28 (by decide) ?_
        refine zci (wr := [(hs, .inl (cI, 380, .inl S)), (hN9, .inl (cI, 128, .inl NM)), (hp, .inl (cI, 64, .inl PI)), (hL, .inl (cI, 46, .inl L))]) (va_runV (As := [.int (nI 1)]) (rest := []) ⟨hx, hb, hml, hown, hts⟩ (c_X6_error l D cI cJ h hE fs E 1 (by first | rfl | assumption | omega) (by first | rfl | assumption | omega) s.heap.size) (cwV 1 hts gX6_best_X6_error rfl rfl rfl (by decide +kernel) ⟨Nat.le_of_ble_eq_true rfl, Nat.le_of_ble_eq_true rfl⟩) (zpV hK hN hZ hP hD hS hA [0, 2] rfl (by decide) 0 rfl rfl rfl) rfl rfl hl.1 rfl (lv_room (Nat.le_of_ble_eq_true rfl)) dX6_best_29 ⟨Nat.zero_le _, Nat.zero_le _⟩) hP hD hS hA [0, 2] [1, 3, 4, 5] rfl rfl (by decide) (by decide) (fun r_74 w_73 H locs h_72 hP hD hS => ?_)
        obtain ⟨rfl, rfl⟩ := h_72
        have hP : va_P D vwCl [(hs, .inl (cI, 380, .inl S)), (hN9, .inl (cI, 128, .inl NM)), (hp, .inl (cI, 64, .inl PI)), (hL, .inl (cI, 46, .inl L)), (h, .inr (6, fs)), (hE, .inl (cI, 7, .inl (upd E 1 (E 1 + nI 1))))] H := hP
        have hD : va_D AA [(hs, .inl (cI, 380, .inl S)), (hN9, .inl (cI, 128, .inl NM)), (hp, .inl (cI, 64, .inl PI)), (hL, .inl (cI, 46, .inl L)), (h, .inr (6, fs)), (hE, .inl (cI, 7, .inl (upd E 1 (E 1 + nI 1))))] := hD
        have hP := hP.sub (ws' := [(h, .inr (6, fs)), (hs, .inl (cI, 380, .inl S)), (hE, .inl (cI, 7, .inl (upd E 1 (E 1 + nI 1)))), (hN9, .inl (cI, 128, .inl NM)), (hp, .inl (cI, 64, .inl PI)), (hL, .inl (cI, 46, .inl L))]) [4, 0, 5, 1, 2, 3] rfl
        have hD := hD.sub (ws' := [(h, .inr (6, fs)), (hs, .inl (cI, 380, .inl S)), (hE, .inl (cI, 7, .inl (upd E 1 (E 1 + nI 1)))), (hN9, .inl (cI, 128, .inl NM)), (hp, .inl (cI, 64, .inl PI)), (hL, .inl (cI, 46, .inl L))]) [4, 0, 5, 1, 2, 3] (by decide) rfl
        exact hret hP hD hS dX6_best_32 rfl (by rw [show zo_best S E k (zDS S n len0 tk0 mi) len1 tk1 (nI j) (nI v9) what = zerrE 1 S E from if_neg (by intro h9; first | exact absurd h9.1 (by assumption) | exact absurd h9.2.1 (by assumption) | exact absurd h9.2.2 (by assumption))]; exact ⟨_, _, _, rfl, rfl⟩)
