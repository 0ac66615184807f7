
def zDSh (S : Nat → Int32) (n len : Nat) (tk : zTk) (mi : Nat) (hd : Int32) : zDt := (n, len, tk, fun i => S (32 + i), hd, fun c => S (8 + 4 * c + 0), fun c => S (8 + 4 * c + 1), fun c => S (8 + 4 * c + 2), fun c => S (8 + 4 * c + 3), mi)
theorem zDS_h {S : Nat → Int32} {n len mi : Nat} {tk : zTk} {hd : Int32} : zDS (upd S 2 hd) n len tk mi = zDSh S n len tk mi hd := by
  unfold zDS zDSh
  rw [show (fun i => upd S 2 hd (32 + i)) = fun i => S (32 + i) from funext fun i => zupd_n (by omega), show upd S 2 hd 2 = hd from if_pos rfl, show (fun c => upd S 2 hd (8 + 4 * c + 0)) = fun c => S (8 + 4 * c + 0) from funext fun c => zupd_n (by omega), show (fun c => upd S 2 hd (8 + 4 * c + 1)) = fun c => S (8 + 4 * c + 1) from funext fun c => zupd_n (by omega), show (fun c => upd S 2 hd (8 + 4 * c + 2)) = fun c => S (8 + 4 * c + 2) from funext fun c => zupd_n (by omega), show (fun c => upd S 2 hd (8 + 4 * c + 3)) = fun c => S (8 + 4 * c + 3) from funext fun c => zupd_n (by omega)]
theorem zOK_h {S : Nat → Int32} {n len mi k : Nat} {tk : zTk} (h : zOK (zDS S n len tk mi) k) (hd : Int32) : zOK (zDSh S n len tk mi hd) k := h
theorem zTX_u2 {S : Nat → Int32} {u len : Nat} {tk : zTk} (h : zTX S u len tk) (hd : Int32) : zTX (upd S 2 hd) u len tk := by
  refine ⟨by rw [zupd_n (by omega)]; exact h.1, fun i hi => ⟨by rw [zupd_n (by omega)]; exact (h.2 i hi).1, by rw [zupd_n (by omega)]; exact (h.2 i hi).2⟩⟩
theorem zback2 {S L : Nat → Int32} {d : zDt} {k q : Nat} {hd : Int32} (hk : k ≤ 6) : zcp (zcp S L 46) (zsm (upd S 2 hd) d k 0 q) 46 = S := by
  funext i
  unfold zcp
  by_cases h : i < 46
  · rw [if_pos h, if_pos h]
  · rw [if_neg h, zsm_o (by omega) (by omega)]; exact zupd_n (by omega)
abbrev zPso (d : zDt) (k c : Nat) (F : Nat → Int32) : Nat → Prop := fun t => ¬ zGm d k 0 (t + 1) c = F t
def zhid (n i : Nat) : Int32 := if i < n then nI i else -1
def zor (P : Nat → Prop) [DecidablePred P] : Nat → Int32
  | 0 => 0
  | i + 1 => if P i then zor P i ||| (nI 1 <<< (nI i &&& 31)) else zor P i
theorem zso_leaf {P : Nat → Prop} [DecidablePred P] {t m : Nat} {is : Int32} (h : (is = nI 1 ∧ zfind P (m - t) t = zfind P m 0) ∨ (is = nI 0 ∧ zfind P m 0 < m)) (ht : t ≤ m) (hx : m ≤ t ∨ is = 0) : is = bI (zfind P m 0 = m) := by
  rcases h with ⟨h1, h2⟩ | ⟨h1, h2⟩
  · rcases hx with hx | hx
    · rw [show m - t = 0 by omega] at h2
      rw [h1]; exact (bI_t (show zfind P m 0 = m from by rw [← h2]; exact (show t = m by omega))).symm
    · rw [h1] at hx; exact absurd hx (by decide)
  · rw [h1]; exact (bI_f (by omega)).symm
theorem zso_t {P : Nat → Prop} [DecidablePred P] {t m : Nat} (h : zfind P (m - t) t = zfind P m 0) (ht : t < m) (hp : ¬ P t) : zfind P (m - (t + 1)) (t + 1) = zfind P m 0 := by
  rw [← h, show m - t = (m - (t + 1)) + 1 by omega]; exact (zfind_n hp).symm
theorem zso_f {P : Nat → Prop} [DecidablePred P] {t m : Nat} (h : zfind P (m - t) t = zfind P m 0) (ht : t < m) (hp : P t) : zfind P m 0 < m := by
  rw [← h, show m - t = (m - (t + 1)) + 1 by omega, zfind_p hp]; exact ht
def zo_suspects (S E : Nat → Int32) (k n len : Nat) (tk : zTk) (mi : Nat) (BT SZ NU : Nat → Int32) (climber sh : Int32) : zOut := if zin climber k then (if zlk BT sh = 0 then (zor (fun x => zfind (zPso (zDSh S n len tk mi (zhid n x)) k climber.toNatClampNeg (fun y => NU (24 * sh.toNatClampNeg + y))) (SZ sh.toNatClampNeg).toNatClampNeg 0 = (SZ sh.toNatClampNeg).toNatClampNeg) (n + 1), S, E) else zerrE (zlk BT sh) S E) else zerrE 1 S E
set_option maxHeartbeats 4000000 in
set_option maxRecDepth 100000 in
theorem c_X6_countsSo (l : Launch) (D : va_G) (cI cJ : ClassId) (h : Nat) (hs : Nat) (fs : List Value) (S : Nat → Int32) (n : Nat) (k : Nat) (hN9 : Nat) (hp : Nat) (hL : Nat) (NM : Nat → Int32) (PI : Nat → Int32) (L : Nat → Int32) (len0 : Nat) (tk0 : zTk) (mi : Nat) (hz9 : Nat) (hn9 : Nat) (SZ : Nat → Int32) (NU : Nat → Int32) (m : Nat) (j : Nat) (q : Nat) (hd : Int32) (hf0 : fs[0]? = some (.ref hs)) (hn1 : S 1 = nI n) (hk6 : S 6 = nI k) (hn4 : 4 ≤ n) (hn14 : n ≤ 14) (hkle : k ≤ 6) (hf10 : fs[10]? = some (.ref hN9)) (hf11 : fs[11]? = some (.ref hp)) (hf2 : fs[2]? = some (.ref hL)) (htx0 : zTX S 0 len0 tk0) (hmi : S 0 = nI mi) (hok : zOK (zDS S n len0 tk0 mi) k) (hf17 : fs[17]? = some (.ref hz9)) (hf18 : fs[18]? = some (.ref hn9)) (hjk : j < k) (hq3 : q ≤ 3) (hm : SZ q = nI m) (hm24 : m ≤ 24) : zMi l yX6_countsSo wsX6_countsSo ({ frames := 6, cells := 0, slots := 0, locals := 141 } : Room) D [(cI, .int), (cJ, .array .int)] [.ref h, .int (nI j), .int (nI q), .int hd] [(h, .inr (6, fs)), (hs, .inl (cI, 380, .inl S)), (hN9, .inl (cI, 128, .inl NM)), (hp, .inl (cI, 64, .inl PI)), (hL, .inl (cI, 46, .inl L)), (hz9, .inl (cI, 4, .inl SZ)), (hn9, .inl (cI, 96, .inl NU))] (fun r w => ∃ NM9 PI9 L9 : Nat → Int32, r = bI (zfind (zPso (zDSh S n len0 tk0 mi hd) k j (fun y => NU (24 * q + y))) m 0 = m) ∧ w = [(h, .inr (6, fs)), (hs, .inl (cI, 380, .inl S)), (hN9, .inl (cI, 128, .inl NM9)), (hp, .inl (cI, 64, .inl PI9)), (hL, .inl (cI, 46, .inl L9)), (hz9, .inl (cI, 4, .inl SZ)), (hn9, .inl (cI, 96, .inl NU))]) := by
  refine zMi.start (cc := cX6_countsSo) (maxL := 6) (rt := .boolean) (by first | decide | decide +kernel) rfl (Nat.le_of_ble_eq_true rfl) ?_
  intro pg ev s mt args below meth cd ls AA QQ ⟨hx, hb, hml, hr, hlocks, hown, hts, hK, hN, hZ, hP, hD, hA, hS, hl⟩ hret
  have hown : s.vm.findClass RX6 = some mt.cls := hown
  have hl : lv_has ls 6 [(0, .ref h), (1, .int (nI j)), (2, .int (nI q)), (3, .int hd)] := hl
  have hin6 : ∀ w ∈ wsX60, w ∈ wsX6_countsSo := fun w h => List.mem_cons_of_mem _ (List.mem_append_right _ (h))
  refine lv_aload_n hx hb dX6_countsSo_0 rfl (lv_at hl 0 rfl) ?_
  refine zcv (wr := [(hN9, .inl (cI, 128, .inl NM)), (hp, .inl (cI, 64, .inl PI)), (hz9, .inl (cI, 4, .inl SZ)), (hn9, .inl (cI, 96, .inl NU))]) (va_runV (As := []) (rest := []) ⟨hx, hb, hml, hown, hts⟩ (c_X6_layDown l D cI cJ h hs hL fs S L (by first | rfl | assumption | omega) (by first | rfl | assumption | omega) s.heap.size) (cwV 0 hts gX6_countsSo_X6_layDown rfl rfl rfl (by decide +kernel) ⟨Nat.le_of_ble_eq_true rfl, Nat.le_of_ble_eq_true rfl⟩) (zpV hK hN hZ hP hD hS hA [0, 1, 4] rfl (by decide) 0 rfl rfl rfl) rfl rfl hl.1 rfl (lv_room (Nat.le_of_ble_eq_true rfl)) dX6_countsSo_1 ⟨Nat.zero_le _, Nat.zero_le _⟩) hP hD hS hA [0, 1, 4] [2, 3, 5, 6] rfl rfl (by decide) (by decide) (fun w_2 H locs h_1 hP hD hS => ?_)
  obtain rfl := h_1
  have hP : va_P D vwCl [(hN9, .inl (cI, 128, .inl NM)), (hp, .inl (cI, 64, .inl PI)), (hz9, .inl (cI, 4, .inl SZ)), (hn9, .inl (cI, 96, .inl NU)), (h, .inr (6, fs)), (hs, .inl (cI, 380, .inl S)), (hL, .inl (cI, 46, .inl (zcp S L 46)))] H := hP
  have hD : va_D AA [(hN9, .inl (cI, 128, .inl NM)), (hp, .inl (cI, 64, .inl PI)), (hz9, .inl (cI, 4, .inl SZ)), (hn9, .inl (cI, 96, .inl NU)), (h, .inr (6, fs)), (hs, .inl (cI, 380, .inl S)), (hL, .inl (cI, 46, .inl (zcp S L 46)))] := hD
  refine lv_aload_n hx hb dX6_countsSo_4 rfl (lv_at hl 0 rfl) ?_
  refine va_get (ci := 6) (v := .ref hs) (C := RX6) (T := TX6) (N := 20) hx hb hts hin6 hown hK hP 4 rfl rfl 0 (by decide) (hts (.fieldLink RX6 7 "UpAllRoundModel" "s" "[I") (List.mem_of_getElem? (i := 1) rfl)) (fun _ h9 => h9) hf0 dX6_countsSo_5 ?_
  refine lv_iconst (v := nI 2) hx hb dX6_countsSo_8 (by decide) ?_
  refine lv_iload_n hx hb dX6_countsSo_9 rfl (lv_at hl 3 rfl) ?_
  refine zast (t := 2) hx hb hK hP hD hS 5 rfl (by omega) (by decide) dX6_countsSo_10 (fun H locs hP hD hS => ?_)
  have hP : va_P D vwCl [(hN9, .inl (cI, 128, .inl NM)), (hp, .inl (cI, 64, .inl PI)), (hz9, .inl (cI, 4, .inl SZ)), (hn9, .inl (cI, 96, .inl NU)), (h, .inr (6, fs)), (hs, .inl (cI, 380, .inl (upd S 2 hd))), (hL, .inl (cI, 46, .inl (zcp S L 46)))] H := hP
  have hD : va_D AA [(hN9, .inl (cI, 128, .inl NM)), (hp, .inl (cI, 64, .inl PI)), (hz9, .inl (cI, 4, .inl SZ)), (hn9, .inl (cI, 96, .inl NU)), (h, .inr (6, fs)), (hs, .inl (cI, 380, .inl (upd S 2 hd))), (hL, .inl (cI, 46, .inl (zcp S L 46)))] := hD
  refine lv_iconst (v := nI 1) hx hb dX6_countsSo_11 (by decide) ?_
  refine lv_istore (lv' := [(4, .int (nI 1)), (0, .ref h), (1, .int (nI j)), (2, .int (nI q)), (3, .int hd)]) hx hb dX6_countsSo_12 hl (by decide) rfl (fun ls hl => ?_)
  refine lv_iconst (v := nI 0) hx hb dX6_countsSo_14 (by decide) ?_
  refine lv_istore (lv' := [(5, .int (nI 0)), (4, .int (nI 1)), (0, .ref h), (1, .int (nI j)), (2, .int (nI q)), (3, .int hd)]) hx hb dX6_countsSo_15 hl (by decide) rfl (fun ls hl => ?_)
  have hP := zPx (i := 5) (g := zsm (upd S 2 hd) (zDS (upd S 2 hd) n len0 tk0 mi) k 0 0) hP rfl (fun j _ => (congrFun (zsm_start (show upd S 2 hd 0 = nI mi from (zupd_n (by omega)).trans hmi) (show zOK (zDS (upd S 2 hd) n len0 tk0 mi) k from zDS_h ▸ zOK_h hok hd)) j).symm)
  have hD := zDx (i := 5) (g := zsm (upd S 2 hd) (zDS (upd S 2 hd) n len0 tk0 mi) k 0 0) hD rfl
  have hP : va_P D vwCl [(hN9, .inl (cI, 128, .inl NM)), (hp, .inl (cI, 64, .inl PI)), (hz9, .inl (cI, 4, .inl SZ)), (hn9, .inl (cI, 96, .inl NU)), (h, .inr (6, fs)), (hs, .inl (cI, 380, .inl (zsm (upd S 2 hd) (zDS (upd S 2 hd) n len0 tk0 mi) k 0 0))), (hL, .inl (cI, 46, .inl (zcp S L 46)))] H := hP
  have hD : va_D AA [(hN9, .inl (cI, 128, .inl NM)), (hp, .inl (cI, 64, .inl PI)), (hz9, .inl (cI, 4, .inl SZ)), (hn9, .inl (cI, 96, .inl NU)), (h, .inr (6, fs)), (hs, .inl (cI, 380, .inl (zsm (upd S 2 hd) (zDS (upd S 2 hd) n len0 tk0 mi) k 0 0))), (hL, .inl (cI, 46, .inl (zcp S L 46)))] := hD
  have L_17 : ∀ (fu t : Nat) (NMv : Nat → Int32) (PIv : Nat → Int32) (is9 : Int32) (hi : t ≤ m) (hn : m + 1 ≤ t + fu) (hz : (is9 = nI 1 ∧ zfind (zPso (zDSh S n len0 tk0 mi hd) k j (fun y => NU (24 * q + y))) (m - t) t = zfind (zPso (zDSh S n len0 tk0 mi hd) k j (fun y => NU (24 * q + y))) m 0) ∨ (is9 = nI 0 ∧ zfind (zPso (zDSh S n len0 tk0 mi hd) k j (fun y => NU (24 * q + y))) m 0 < m)), ∀ (ls : Array Slot), lv_has ls 6 [(0, .ref h), (1, .int (nI j)), (2, .int (nI q)), (3, .int hd), (4, .int is9), (5, .int (nI t))] → ∀ (H : Heap) (locs : List Loc), va_P D vwCl [(h, .inr (6, fs)), (hs, .inl (cI, 380, .inl (zsm (upd S 2 hd) (zDS (upd S 2 hd) n len0 tk0 mi) k 0 t))), (hN9, .inl (cI, 128, .inl NMv)), (hp, .inl (cI, 64, .inl PIv)), (hL, .inl (cI, 46, .inl (zcp S L 46))), (hz9, .inl (cI, 4, .inl SZ)), (hn9, .inl (cI, 96, .inl NU))] H → va_D AA [(h, .inr (6, fs)), (hs, .inl (cI, 380, .inl (zsm (upd S 2 hd) (zDS (upd S 2 hd) n len0 tk0 mi) k 0 t))), (hN9, .inl (cI, 128, .inl NMv)), (hp, .inl (cI, 64, .inl PIv)), (hL, .inl (cI, 46, .inl (zcp S L 46))), (hz9, .inl (cI, 4, .inl SZ)), (hn9, .inl (cI, 96, .inl NU))] → va_S AA s.heap H locs → W pg l ev ({ frames := 6, cells := 0, slots := 0, locals := 141 } : Room) s mt args below meth cd H locs 0 0 QQ (F0 mt 17 ls []) := by
    intro fu
    induction fu with
    | zero =>
      intro t NMv PIv is9 hi hn
      exact absurd hn (by omega)
    | succ fu ih_17 =>
      intro t NMv PIv is9 hi hn hz ls hl H locs hP hD hS
      refine lv_iload hx hb dX6_countsSo_17 (lv_at hl 5 rfl) ?_
      refine lv_aload_n hx hb dX6_countsSo_19 rfl (lv_at hl 0 rfl) ?_
      refine va_get (ci := 6) (v := .ref hz9) (C := RX6) (T := TX6) (N := 20) hx hb hts hin6 hown hK hP 0 rfl rfl 17 (by decide) (hts (.fieldLink RX6 37 "UpAllRoundModel" "sizes" "[I") (List.mem_of_getElem? (i := 2) rfl)) (fun _ h9 => h9) hf17 dX6_countsSo_20 ?_
      refine lv_iload_n hx hb dX6_countsSo_23 rfl (lv_at hl 2 rfl) ?_
      refine zald (t := q) hx hb hK hP 5 rfl (by omega) (by decide) dX6_countsSo_24 ?_
      refine zrw hm ?_
      refine lv_icmp_ge (tgt := 71) hx hb dX6_countsSo_25 (by decide) (fun c25_3 => ?_) (fun c25_3 => ?_)
      · have c25_3 : m ≤ t := (nI_leI (a := m) (b := t) (by omega) (by omega)).mp c25_3
        refine lv_aload_n hx hb dX6_countsSo_71 rfl (lv_at hl 0 rfl) ?_
        refine zcv (wr := [(hN9, .inl (cI, 128, .inl NMv)), (hp, .inl (cI, 64, .inl PIv)), (hz9, .inl (cI, 4, .inl SZ)), (hn9, .inl (cI, 96, .inl NU))]) (va_runV (As := []) (rest := []) ⟨hx, hb, hml, hown, hts⟩ (c_X6_layBack l D cI cJ h hs hL fs (zsm (upd S 2 hd) (zDS (upd S 2 hd) n len0 tk0 mi) k 0 t) (zcp S L 46) (by first | rfl | assumption | omega) (by first | rfl | assumption | omega) H.size) (cwV 0 hts gX6_countsSo_X6_layBack rfl rfl rfl (by decide +kernel) ⟨Nat.le_of_ble_eq_true rfl, Nat.le_of_ble_eq_true rfl⟩) (zpV hK hN hZ hP hD hS hA [0, 1, 4] rfl (by decide) 0 rfl rfl rfl) rfl rfl hl.1 rfl (lv_room (Nat.le_of_ble_eq_true rfl)) dX6_countsSo_72 ⟨Nat.zero_le _, Nat.zero_le _⟩) hP hD hS hA [0, 1, 4] [2, 3, 5, 6] rfl rfl (by decide) (by decide) (fun w_5 H locs h_4 hP hD hS => ?_)
        obtain rfl := h_4
        have hP : va_P D vwCl [(hN9, .inl (cI, 128, .inl NMv)), (hp, .inl (cI, 64, .inl PIv)), (hz9, .inl (cI, 4, .inl SZ)), (hn9, .inl (cI, 96, .inl NU)), (h, .inr (6, fs)), (hs, .inl (cI, 380, .inl (zcp (zcp S L 46) (zsm (upd S 2 hd) (zDS (upd S 2 hd) n len0 tk0 mi) k 0 t) 46))), (hL, .inl (cI, 46, .inl ((zcp S L 46))))] H := hP
        have hD : va_D AA [(hN9, .inl (cI, 128, .inl NMv)), (hp, .inl (cI, 64, .inl PIv)), (hz9, .inl (cI, 4, .inl SZ)), (hn9, .inl (cI, 96, .inl NU)), (h, .inr (6, fs)), (hs, .inl (cI, 380, .inl (zcp (zcp S L 46) (zsm (upd S 2 hd) (zDS (upd S 2 hd) n len0 tk0 mi) k 0 t) 46))), (hL, .inl (cI, 46, .inl ((zcp S L 46))))] := hD
        have hP := zPx (i := 5) (g := S) hP rfl (fun j _ => congrFun (zback2 hkle) j)
        have hD := zDx (i := 5) (g := S) hD rfl
        have hP : va_P D vwCl [(hN9, .inl (cI, 128, .inl NMv)), (hp, .inl (cI, 64, .inl PIv)), (hz9, .inl (cI, 4, .inl SZ)), (hn9, .inl (cI, 96, .inl NU)), (h, .inr (6, fs)), (hs, .inl (cI, 380, .inl S)), (hL, .inl (cI, 46, .inl ((zcp S L 46))))] H := hP
        have hD : va_D AA [(hN9, .inl (cI, 128, .inl NMv)), (hp, .inl (cI, 64, .inl PIv)), (hz9, .inl (cI, 4, .inl SZ)), (hn9, .inl (cI, 96, .inl NU)), (h, .inr (6, fs)), (hs, .inl (cI, 380, .inl S)), (hL, .inl (cI, 46, .inl ((zcp S L 46))))] := hD
        refine lv_iload hx hb dX6_countsSo_75 (lv_at hl 4 rfl) ?_
        have hP := hP.sub (ws' := [(h, .inr (6, fs)), (hs, .inl (cI, 380, .inl S)), (hN9, .inl (cI, 128, .inl NMv)), (hp, .inl (cI, 64, .inl PIv)), (hL, .inl (cI, 46, .inl ((zcp S L 46)))), (hz9, .inl (cI, 4, .inl SZ)), (hn9, .inl (cI, 96, .inl NU))]) [4, 5, 0, 1, 6, 2, 3] rfl
        have hD := hD.sub (ws' := [(h, .inr (6, fs)), (hs, .inl (cI, 380, .inl S)), (hN9, .inl (cI, 128, .inl NMv)), (hp, .inl (cI, 64, .inl PIv)), (hL, .inl (cI, 46, .inl ((zcp S L 46)))), (hz9, .inl (cI, 4, .inl SZ)), (hn9, .inl (cI, 96, .inl NU))]) [4, 5, 0, 1, 6, 2, 3] (by decide) rfl
        exact hret hP hD hS dX6_countsSo_77 (by rcases hz with h9 | h9 <;> rw [h9.1] <;> rfl) (by exact ⟨_, _, _, zso_leaf hz hi (Or.inl (by omega)), rfl⟩)
      · have c25_3 : ¬ (m ≤ t) := fun h9 => c25_3 ((nI_leI (a := m) (b := t) (by omega) (by omega)).mpr h9)
        refine lv_iload hx hb dX6_countsSo_28 (lv_at hl 4 rfl) ?_
        refine lv_if_eq (tgt := 71) hx hb dX6_countsSo_30 (by decide) (fun c30_6 => ?_) (fun c30_6 => ?_)
        · refine lv_aload_n hx hb dX6_countsSo_71 rfl (lv_at hl 0 rfl) ?_
          refine zcv (wr := [(hN9, .inl (cI, 128, .inl NMv)), (hp, .inl (cI, 64, .inl PIv)), (hz9, .inl (cI, 4, .inl SZ)), (hn9, .inl (cI, 96, .inl NU))]) (va_runV (As := []) (rest := []) ⟨hx, hb, hml, hown, hts⟩ (c_X6_layBack l D cI cJ h hs hL fs (zsm (upd S 2 hd) (zDS (upd S 2 hd) n len0 tk0 mi) k 0 t) (zcp S L 46) (by first | rfl | assumption | omega) (by first | rfl | assumption | omega) H.size) (cwV 0 hts gX6_countsSo_X6_layBack rfl rfl rfl (by decide +kernel) ⟨Nat.le_of_ble_eq_true rfl, Nat.le_of_ble_eq_true rfl⟩) (zpV hK hN hZ hP hD hS hA [0, 1, 4] rfl (by decide) 0 rfl rfl rfl) rfl rfl hl.1 rfl (lv_room (Nat.le_of_ble_eq_true rfl)) dX6_countsSo_72 ⟨Nat.zero_le _, Nat.zero_le _⟩) hP hD hS hA [0, 1, 4] [2, 3, 5, 6] rfl rfl (by decide) (by decide) (fun w_8 H locs h_7 hP hD hS => ?_)
          obtain rfl := h_7
          have hP : va_P D vwCl [(hN9, .inl (cI, 128, .inl NMv)), (hp, .inl (cI, 64, .inl PIv)), (hz9, .inl (cI, 4, .inl SZ)), (hn9, .inl (cI, 96, .inl NU)), (h, .inr (6, fs)), (hs, .inl (cI, 380, .inl (zcp (zcp S L 46) (zsm (upd S 2 hd) (zDS (upd S 2 hd) n len0 tk0 mi) k 0 t) 46))), (hL, .inl (cI, 46, .inl ((zcp S L 46))))] H := hP
          have hD : va_D AA [(hN9, .inl (cI, 128, .inl NMv)), (hp, .inl (cI, 64, .inl PIv)), (hz9, .inl (cI, 4, .inl SZ)), (hn9, .inl (cI, 96, .inl NU)), (h, .inr (6, fs)), (hs, .inl (cI, 380, .inl (zcp (zcp S L 46) (zsm (upd S 2 hd) (zDS (upd S 2 hd) n len0 tk0 mi) k 0 t) 46))), (hL, .inl (cI, 46, .inl ((zcp S L 46))))] := hD
          have hP := zPx (i := 5) (g := S) hP rfl (fun j _ => congrFun (zback2 hkle) j)
          have hD := zDx (i := 5) (g := S) hD rfl
          have hP : va_P D vwCl [(hN9, .inl (cI, 128, .inl NMv)), (hp, .inl (cI, 64, .inl PIv)), (hz9, .inl (cI, 4, .inl SZ)), (hn9, .inl (cI, 96, .inl NU)), (h, .inr (6, fs)), (hs, .inl (cI, 380, .inl S)), (hL, .inl (cI, 46, .inl ((zcp S L 46))))] H := hP
          have hD : va_D AA [(hN9, .inl (cI, 128, .inl NMv)), (hp, .inl (cI, 64, .inl PIv)), (hz9, .inl (cI, 4, .inl SZ)), (hn9, .inl (cI, 96, .inl NU)), (h, .inr (6, fs)), (hs, .inl (cI, 380, .inl S)), (hL, .inl (cI, 46, .inl ((zcp S L 46))))] := hD
          refine lv_iload hx hb dX6_countsSo_75 (lv_at hl 4 rfl) ?_
          have hP := hP.sub (ws' := [(h, .inr (6, fs)), (hs, .inl (cI, 380, .inl S)), (hN9, .inl (cI, 128, .inl NMv)), (hp, .inl (cI, 64, .inl PIv)), (hL, .inl (cI, 46, .inl ((zcp S L 46)))), (hz9, .inl (cI, 4, .inl SZ)), (hn9, .inl (cI, 96, .inl NU))]) [4, 5, 0, 1, 6, 2, 3] rfl
          have hD := hD.sub (ws' := [(h, .inr (6, fs)), (hs, .inl (cI, 380, .inl S)), (hN9, .inl (cI, 128, .inl NMv)), (hp, .inl (cI, 64, .inl PIv)), (hL, .inl (cI, 46, .inl ((zcp S L 46)))), (hz9, .inl (cI, 4, .inl SZ)), (hn9, .inl (cI, 96, .inl NU))]) [4, 5, 0, 1, 6, 2, 3] (by decide) rfl
          exact hret hP hD hS dX6_countsSo_77 (by rcases hz with h9 | h9 <;> rw [h9.1] <;> rfl) (by exact ⟨_, _, _, zso_leaf hz hi (Or.inr (by assumption)), rfl⟩)
        · have hz9_ : zfind (zPso (zDSh S n len0 tk0 mi hd) k j (fun y => NU (24 * q + y))) (m - t) t = zfind (zPso (zDSh S n len0 tk0 mi hd) k j (fun y => NU (24 * q + y))) m 0 := (by rcases hz with h9 | h9; exact h9.2; exact absurd h9.1 c30_6)
          refine lv_aload_n hx hb dX6_countsSo_33 rfl (lv_at hl 0 rfl) ?_
          refine zcv (wr := [(hL, .inl (cI, 46, .inl (zcp S L 46))), (hz9, .inl (cI, 4, .inl SZ)), (hn9, .inl (cI, 96, .inl NU))]) (va_runV (As := []) (rest := []) ⟨hx, hb, hml, hown, hts⟩ (c_X6_minute l D cI cJ h hs hN9 hp fs ((upd S 2 hd)) NMv PIv n len0 tk0 k mi t (by first | rfl | assumption | omega) (by first | rfl | assumption | omega) (by first | rfl | assumption | omega) (zTX_u2 htx0 hd) ((zupd_n (by omega)).trans hn1) ((zupd_n (by omega)).trans hk6) (zDS_h ▸ zOK_h hok hd) (by omega) H.size) (cwV 0 hts gX6_countsSo_X6_minute rfl rfl rfl (by decide +kernel) ⟨Nat.le_of_ble_eq_true rfl, Nat.le_of_ble_eq_true rfl⟩) (zpV hK hN hZ hP hD hS hA [0, 1, 2, 3] rfl (by decide) 0 rfl rfl rfl) rfl rfl hl.1 rfl (lv_room (Nat.le_of_ble_eq_true rfl)) dX6_countsSo_34 ⟨Nat.zero_le _, Nat.zero_le _⟩) hP hD hS hA [0, 1, 2, 3] [4, 5, 6] rfl rfl (by decide) (by decide) (fun w_10 H locs h_9 hP hD hS => ?_)
          obtain ⟨NM9_11, PI9_12, rfl⟩ := h_9
          have hP : va_P D vwCl [(hL, .inl (cI, 46, .inl (zcp S L 46))), (hz9, .inl (cI, 4, .inl SZ)), (hn9, .inl (cI, 96, .inl NU)), (h, .inr (6, fs)), (hs, .inl (cI, 380, .inl (zsm ((upd S 2 hd)) (zDS ((upd S 2 hd)) n len0 tk0 mi) k 0 (t + 1)))), (hN9, .inl (cI, 128, .inl NM9_11)), (hp, .inl (cI, 64, .inl PI9_12))] H := hP
          have hD : va_D AA [(hL, .inl (cI, 46, .inl (zcp S L 46))), (hz9, .inl (cI, 4, .inl SZ)), (hn9, .inl (cI, 96, .inl NU)), (h, .inr (6, fs)), (hs, .inl (cI, 380, .inl (zsm ((upd S 2 hd)) (zDS ((upd S 2 hd)) n len0 tk0 mi) k 0 (t + 1)))), (hN9, .inl (cI, 128, .inl NM9_11)), (hp, .inl (cI, 64, .inl PI9_12))] := hD
          refine lv_aload_n hx hb dX6_countsSo_37 rfl (lv_at hl 0 rfl) ?_
          refine lv_iload_n hx hb dX6_countsSo_38 rfl (lv_at hl 1 rfl) ?_
          refine lv_iconst (v := nI 3) hx hb dX6_countsSo_39 (by decide) ?_
          refine zcsE (va_runV (As := [.int (nI j), .int (nI 3)]) (rest := []) ⟨hx, hb, hml, hown, hts⟩ (c_X6_its l D cI cJ h hs fs (zsm ((upd S 2 hd)) (zDS ((upd S 2 hd)) n len0 tk0 mi) k 0 (t + 1)) j 3 (by first | rfl | assumption | omega) (by omega) H.size) (cwV 2 hts gX6_countsSo_X6_its rfl rfl rfl (by decide +kernel) ⟨Nat.le_of_ble_eq_true rfl, Nat.le_of_ble_eq_true rfl⟩) (zpV hK hN hZ hP hD hS hA [3, 4] rfl (by decide) 3 rfl rfl rfl) rfl rfl hl.1 rfl (lv_room (Nat.le_of_ble_eq_true rfl)) dX6_countsSo_40 ⟨Nat.zero_le _, Nat.zero_le _⟩) ?_
          refine zrw (show _ = zGm (zDSh S n len0 tk0 mi hd) k 0 (t + 1) j from by rw [zDS_h]; exact zsm_G hjk) ?_
          refine lv_aload_n hx hb dX6_countsSo_43 rfl (lv_at hl 0 rfl) ?_
          refine va_get (ci := 6) (v := .ref hn9) (C := RX6) (T := TX6) (N := 20) hx hb hts hin6 hown hK hP 3 rfl rfl 18 (by decide) (hts (.fieldLink RX6 40 "UpAllRoundModel" "number" "[I") (List.mem_of_getElem? (i := 3) rfl)) (fun _ h9 => h9) hf18 dX6_countsSo_44 ?_
          refine lv_bipush (v := nI 24) hx hb dX6_countsSo_47 (by decide) ?_
          refine lv_iload_n hx hb dX6_countsSo_49 rfl (lv_at hl 2 rfl) ?_
          refine lv_imul hx hb dX6_countsSo_50 ?_
          refine zrw (pk_mul _ _) ?_
          refine lv_iload hx hb dX6_countsSo_51 (lv_at hl 5 rfl) ?_
          refine lv_iadd hx hb dX6_countsSo_53 ?_
          refine zrw (nI_add _ _) ?_
          refine zald (t := (24 * q) + t) hx hb hK hP 2 rfl (by omega) (by decide) dX6_countsSo_54 ?_
          refine lv_icmp_ne (tgt := 62) hx hb dX6_countsSo_55 (by decide) (fun c55_13 => ?_) (fun c55_13 => ?_)
          · refine lv_iconst (v := nI 0) hx hb dX6_countsSo_62 (by decide) ?_
            refine lv_istore (lv' := [(4, .int (nI 0)), (0, .ref h), (1, .int (nI j)), (2, .int (nI q)), (3, .int hd), (5, .int (nI t))]) hx hb dX6_countsSo_63 hl (by decide) rfl (fun ls hl => ?_)
            refine lv_iinc (v := nI (t + 1)) (lv' := [(5, .int (nI (t + 1))), (4, .int (nI 0)), (0, .ref h), (1, .int (nI j)), (2, .int (nI q)), (3, .int hd)]) hx hb dX6_countsSo_65 hl (k := 5) rfl (nI_add _ _) (by decide) rfl (fun ls hl => ?_)
            refine lv_goto (tgt := 17) hx hb dX6_countsSo_68 (by decide) ?_
            exact ih_17  (t + 1) NM9_11 PI9_12 ((nI 0)) (by omega) (by omega) (Or.inr ⟨rfl, zso_f hz9_ (by omega) (by assumption)⟩) ls (lv_sub hl [2, 3, 4, 5, 1, 0] rfl) H locs (hP.sub [3, 4, 5, 6, 0, 1, 2] rfl) (hD.sub [3, 4, 5, 6, 0, 1, 2] (by decide) rfl) hS
          · refine lv_iconst (v := nI 1) hx hb dX6_countsSo_58 (by decide) ?_
            refine lv_goto (tgt := 63) hx hb dX6_countsSo_59 (by decide) ?_
            refine lv_istore (lv' := [(4, .int (nI 1)), (0, .ref h), (1, .int (nI j)), (2, .int (nI q)), (3, .int hd), (5, .int (nI t))]) hx hb dX6_countsSo_63 hl (by decide) rfl (fun ls hl => ?_)
            refine lv_iinc (v := nI (t + 1)) (lv' := [(5, .int (nI (t + 1))), (4, .int (nI 1)), (0, .ref h), (1, .int (nI j)), (2, .int (nI q)), (3, .int hd)]) hx hb dX6_countsSo_65 hl (k := 5) rfl (nI_add _ _) (by decide) rfl (fun ls hl => ?_)
            refine lv_goto (tgt := 17) hx hb dX6_countsSo_68 (by decide) ?_
            exact ih_17  (t + 1) NM9_11 PI9_12 ((nI 1)) (by omega) (by omega) (Or.inl ⟨rfl, zso_t hz9_ (by omega) (fun h9 => h9 (by assumption))⟩) ls (lv_sub hl [2, 3, 4, 5, 1, 0] rfl) H locs (hP.sub [3, 4, 5, 6, 0, 1, 2] rfl) (hD.sub [3, 4, 5, 6, 0, 1, 2] (by decide) rfl) hS
  exact L_17 (m + 1) 0 NM PI (nI 1) (by omega) (by omega) (Or.inl ⟨rfl, rfl⟩) ls (lv_sub hl [2, 3, 4, 5, 1, 0] rfl) _ _ (hP.sub [4, 5, 0, 1, 6, 2, 3] rfl) (hD.sub [4, 5, 0, 1, 6, 2, 3] (by decide) rfl) hS
set_option maxHeartbeats 4000000 in
set_option maxRecDepth 100000 in
theorem c_X6_suspects (l : Launch) (D : va_G) (cI cJ : ClassId) (h : Nat) (hs : Nat) (hE : Nat) (fs : List Value) (S : Nat → Int32) (E : Nat → Int32) (n : Nat) (k : Nat) (hN9 : Nat) (hp : Nat) (hL : Nat) (NM : Nat → Int32) (PI : Nat → Int32) (L : Nat → Int32) (len0 : Nat) (tk0 : zTk) (mi : Nat) (hb9 : Nat) (hz9 : Nat) (hn9 : Nat) (BT : Nat → Int32) (SZ : Nat → Int32) (NU : Nat → Int32) (climber : Int32) (sh : Int32) (hf0 : fs[0]? = some (.ref hs)) (hf4 : fs[4]? = some (.ref hE)) (hn1 : S 1 = nI n) (hk6 : S 6 = nI k) (hn4 : 4 ≤ n) (hn14 : n ≤ 14) (hkle : k ≤ 6) (hf10 : fs[10]? = some (.ref hN9)) (hf11 : fs[11]? = some (.ref hp)) (hf2 : fs[2]? = some (.ref hL)) (htx0 : zTX S 0 len0 tk0) (hmi : S 0 = nI mi) (hok : zOK (zDS S n len0 tk0 mi) k) (hf16 : fs[16]? = some (.ref hb9)) (hf17 : fs[17]? = some (.ref hz9)) (hf18 : fs[18]? = some (.ref hn9)) (hsz : ∀ i, i < 4 → ∃ m : Nat, SZ i = nI m ∧ m ≤ 24) : zMi l yX6_suspects wsX6_suspects ({ frames := 7, cells := 0, slots := 0, locals := 166 } : Room) D [(cI, .int), (cJ, .array .int)] [.ref h, .int climber, .int sh] [(h, .inr (6, fs)), (hs, .inl (cI, 380, .inl S)), (hE, .inl (cI, 7, .inl E)), (hN9, .inl (cI, 128, .inl NM)), (hp, .inl (cI, 64, .inl PI)), (hL, .inl (cI, 46, .inl L)), (hb9, .inl (cI, 4, .inl BT)), (hz9, .inl (cI, 4, .inl SZ)), (hn9, .inl (cI, 96, .inl NU))] (fun r w => ∃ NM9 PI9 L9 : Nat → Int32, r = (zo_suspects S E k n len0 tk0 mi BT SZ NU climber sh).1 ∧ w = [(h, .inr (6, fs)), (hs, .inl (cI, 380, .inl ((zo_suspects S E k n len0 tk0 mi BT SZ NU climber sh).2.1))), (hE, .inl (cI, 7, .inl ((zo_suspects S E k n len0 tk0 mi BT SZ NU climber sh).2.2))), (hN9, .inl (cI, 128, .inl NM9)), (hp, .inl (cI, 64, .inl PI9)), (hL, .inl (cI, 46, .inl L9)), (hb9, .inl (cI, 4, .inl BT)), (hz9, .inl (cI, 4, .inl SZ)), (hn9, .inl (cI, 96, .inl NU))]) := by
  refine zMi.start (cc := cX6_suspects) (maxL := 6) (rt := .int) (by first | decide | decide +kernel) rfl (Nat.le_of_ble_eq_true rfl) ?_
  intro pg ev s mt args below meth cd ls AA QQ ⟨hx, hb, hml, hr, hlocks, hown, hts, hK, hN, hZ, hP, hD, hA, hS, hl⟩ hret
  have hown : s.vm.findClass RX6 = some mt.cls := hown
  have hl : lv_has ls 6 [(0, .ref h), (1, .int climber), (2, .int sh)] := hl
  have hin6 : ∀ w ∈ wsX60, w ∈ wsX6_suspects := fun w h => List.mem_cons_of_mem _ (List.mem_append_right _ (h))
  refine lv_aload_n hx hb dX6_suspects_0 rfl (lv_at hl 0 rfl) ?_
  refine lv_iload_n hx hb dX6_suspects_1 rfl (lv_at hl 1 rfl) ?_
  refine zcsE (va_runV (As := [.int climber]) (rest := []) ⟨hx, hb, hml, hown, hts⟩ (c_X6_isClimber l D cI cJ h hs fs S k climber (by first | rfl | assumption | omega) (by first | rfl | assumption | omega) (by first | rfl | assumption | omega) s.heap.size) (cwV 1 hts gX6_suspects_X6_isClimber rfl rfl rfl (by decide +kernel) ⟨Nat.le_of_ble_eq_true rfl, Nat.le_of_ble_eq_true rfl⟩) (zpV hK hN hZ hP hD hS hA [0, 1] rfl (by decide) 0 rfl rfl rfl) rfl rfl hl.1 rfl (lv_room (Nat.le_of_ble_eq_true rfl)) dX6_suspects_2 ⟨Nat.zero_le _, Nat.zero_le _⟩) ?_
  refine lv_if_eq (tgt := 16) hx hb dX6_suspects_5 (by decide) (fun c5_1 => ?_) (fun c5_1 => ?_)
  · have c5_1 := bI_0.mp c5_1
    refine lv_iconst (v := nI 1) hx hb dX6_suspects_16 (by decide) ?_
    refine lv_istore_n (lv' := [(3, .int (nI 1)), (0, .ref h), (1, .int climber), (2, .int sh)]) hx hb dX6_suspects_17 rfl hl (by decide) rfl (fun ls hl => ?_)
    refine lv_iload_n hx hb dX6_suspects_18 rfl (lv_at hl 0 rfl) ?_
    refine lv_if_eq (tgt := 28) hx hb dX6_suspects_19 (by decide) (fun c19_2 => ?_) (fun c19_2 => ?_)
    · have c19_2 : 1 = 0 := (nI_eq (a := 1) (b := 0) (by have h98 := zlk_le BT sh; omega) (by have h98 := zlk_le BT sh; omega)).mp c19_2
      exact absurd c19_2 (by omega)
    · have c19_2 : ¬ (1 = 0) := fun h9 => c19_2 ((nI_eq (a := 1) (b := 0) (by have h98 := zlk_le BT sh; omega) (by have h98 := zlk_le BT sh; omega)).mpr h9)
      refine lv_aload_n hx hb dX6_suspects_22 rfl (lv_at hl 1 rfl) ?_
      refine lv_iload_n hx hb dX6_suspects_23 rfl (lv_at hl 0 rfl) ?_
      refine zci (wr := [(hs, .inl (cI, 380, .inl S)), (hN9, .inl (cI, 128, .inl NM)), (hp, .inl (cI, 64, .inl PI)), (hL, .inl (cI, 46, .inl L)), (hb9, .inl (cI, 4, .inl BT)), (hz9, .inl (cI, 4, .inl SZ)), (hn9, .inl (cI, 96, .inl NU))]) (va_runV (As := [.int (nI 1)]) (rest := []) ⟨hx, hb, hml, hown, hts⟩ (c_X6_error l D cI cJ h hE fs E 1 (by first | rfl | assumption | omega) (by have h98 := zlk_le BT sh; omega) s.heap.size) (cwV 1 hts gX6_suspects_X6_error rfl rfl rfl (by decide +kernel) ⟨Nat.le_of_ble_eq_true rfl, Nat.le_of_ble_eq_true rfl⟩) (zpV hK hN hZ hP hD hS hA [0, 2] rfl (by decide) 0 rfl rfl rfl) rfl rfl hl.1 rfl (lv_room (Nat.le_of_ble_eq_true rfl)) dX6_suspects_24 ⟨Nat.zero_le _, Nat.zero_le _⟩) hP hD hS hA [0, 2] [1, 3, 4, 5, 6, 7, 8] rfl rfl (by decide) (by decide) (fun r_5 w_4 H locs h_3 hP hD hS => ?_)
      obtain ⟨rfl, rfl⟩ := h_3
      have hP : va_P D vwCl [(hs, .inl (cI, 380, .inl S)), (hN9, .inl (cI, 128, .inl NM)), (hp, .inl (cI, 64, .inl PI)), (hL, .inl (cI, 46, .inl L)), (hb9, .inl (cI, 4, .inl BT)), (hz9, .inl (cI, 4, .inl SZ)), (hn9, .inl (cI, 96, .inl NU)), (h, .inr (6, fs)), (hE, .inl (cI, 7, .inl (upd E 1 (E 1 + nI 1))))] H := hP
      have hD : va_D AA [(hs, .inl (cI, 380, .inl S)), (hN9, .inl (cI, 128, .inl NM)), (hp, .inl (cI, 64, .inl PI)), (hL, .inl (cI, 46, .inl L)), (hb9, .inl (cI, 4, .inl BT)), (hz9, .inl (cI, 4, .inl SZ)), (hn9, .inl (cI, 96, .inl NU)), (h, .inr (6, fs)), (hE, .inl (cI, 7, .inl (upd E 1 (E 1 + nI 1))))] := hD
      have hP := hP.sub (ws' := [(h, .inr (6, fs)), (hs, .inl (cI, 380, .inl S)), (hE, .inl (cI, 7, .inl (upd E 1 (E 1 + nI 1)))), (hN9, .inl (cI, 128, .inl NM)), (hp, .inl (cI, 64, .inl PI)), (hL, .inl (cI, 46, .inl L)), (hb9, .inl (cI, 4, .inl BT)), (hz9, .inl (cI, 4, .inl SZ)), (hn9, .inl (cI, 96, .inl NU))]) [7, 0, 8, 1, 2, 3, 4, 5, 6] rfl
      have hD := hD.sub (ws' := [(h, .inr (6, fs)), (hs, .inl (cI, 380, .inl S)), (hE, .inl (cI, 7, .inl (upd E 1 (E 1 + nI 1)))), (hN9, .inl (cI, 128, .inl NM)), (hp, .inl (cI, 64, .inl PI)), (hL, .inl (cI, 46, .inl L)), (hb9, .inl (cI, 4, .inl BT)), (hz9, .inl (cI, 4, .inl SZ)), (hn9, .inl (cI, 96, .inl NU))]) [7, 0, 8, 1, 2, 3, 4, 5, 6] (by decide) rfl
      exact hret hP hD hS dX6_suspects_27 rfl (by rw [show zo_suspects S E k n len0 tk0 mi BT SZ NU climber sh = zerrE 1 S E from if_neg (by assumption)]; exact ⟨_, _, _, rfl, rfl⟩)
  · have c5_1 := bI_n0.mp c5_1
    obtain ⟨j, h_j, rfl⟩ := zin_of c5_1 (by omega)
    refine lv_aload_n hx hb dX6_suspects_8 rfl (lv_at hl 0 rfl) ?_
    refine lv_iload_n hx hb dX6_suspects_9 rfl (lv_at hl 2 rfl) ?_
    refine zcsE (va_runV (As := [.int sh]) (rest := []) ⟨hx, hb, hml, hown, hts⟩ (c_X6_lacks l D cI cJ h fs hb9 BT sh (by first | rfl | assumption | omega) s.heap.size) (cwV 1 hts gX6_suspects_X6_lacks rfl rfl rfl (by decide +kernel) ⟨Nat.le_of_ble_eq_true rfl, Nat.le_of_ble_eq_true rfl⟩) (zpV hK hN hZ hP hD hS hA [0, 6] rfl (by decide) 0 rfl rfl rfl) rfl rfl hl.1 rfl (lv_room (Nat.le_of_ble_eq_true rfl)) dX6_suspects_10 ⟨Nat.zero_le _, Nat.zero_le _⟩) ?_
    refine lv_goto (tgt := 17) hx hb dX6_suspects_13 (by decide) ?_
    refine lv_istore_n (lv' := [(3, .int (nI ((zlk BT sh)))), (0, .ref h), (1, .int (nI j)), (2, .int sh)]) hx hb dX6_suspects_17 rfl hl (by decide) rfl (fun ls hl => ?_)
    refine lv_iload_n hx hb dX6_suspects_18 rfl (lv_at hl 0 rfl) ?_
    refine lv_if_eq (tgt := 28) hx hb dX6_suspects_19 (by decide) (fun c19_6 => ?_) (fun c19_6 => ?_)
    · have c19_6 : ((zlk BT sh)) = 0 := (nI_eq (a := (zlk BT sh)) (b := 0) (by have h98 := zlk_le BT sh; omega) (by have h98 := zlk_le BT sh; omega)).mp c19_6
      have hz0 := c19_6
      obtain ⟨hz1, hz2⟩ := zlk_0 c19_6
      obtain ⟨q, h_q, rfl⟩ : ∃ q : Nat, q ≤ 3 ∧ sh = nI q := zrg_of hz1 (by decide)
      obtain ⟨m, hm, hm24⟩ := hsz q (by omega)
      refine lv_iconst (v := nI 0) hx hb dX6_suspects_28 (by decide) ?_
      refine lv_istore (lv' := [(4, .int (nI 0)), (3, .int (nI ((zlk BT (nI q))))), (0, .ref h), (1, .int (nI j)), (2, .int (nI q))]) hx hb dX6_suspects_29 hl (by decide) rfl (fun ls hl => ?_)
      refine lv_iconst (v := nI 0) hx hb dX6_suspects_31 (by decide) ?_
      refine lv_istore (lv' := [(5, .int (nI 0)), (4, .int (nI 0)), (3, .int (nI ((zlk BT (nI q))))), (0, .ref h), (1, .int (nI j)), (2, .int (nI q))]) hx hb dX6_suspects_32 hl (by decide) rfl (fun ls hl => ?_)
      have L_34 : ∀ (fu i : Nat) (NMv : Nat → Int32) (PIv : Nat → Int32) (Lv : Nat → Int32) (u9 : Int32) (hi : i ≤ (n + 1)) (hn : (n + 1) + 1 ≤ i + fu) (hu : u9 = zor (fun x => zfind (zPso (zDSh S n len0 tk0 mi (zhid n x)) k j (fun y => NU (24 * q + y))) m 0 = m) i), ∀ (ls : Array Slot), lv_has ls 6 [(0, .ref h), (1, .int (nI j)), (2, .int (nI q)), (3, .int (nI ((zlk BT (nI q))))), (4, .int u9), (5, .int (nI i))] → ∀ (H : Heap) (locs : List Loc), va_P D vwCl [(h, .inr (6, fs)), (hs, .inl (cI, 380, .inl S)), (hE, .inl (cI, 7, .inl E)), (hN9, .inl (cI, 128, .inl NMv)), (hp, .inl (cI, 64, .inl PIv)), (hL, .inl (cI, 46, .inl Lv)), (hb9, .inl (cI, 4, .inl BT)), (hz9, .inl (cI, 4, .inl SZ)), (hn9, .inl (cI, 96, .inl NU))] H → va_D AA [(h, .inr (6, fs)), (hs, .inl (cI, 380, .inl S)), (hE, .inl (cI, 7, .inl E)), (hN9, .inl (cI, 128, .inl NMv)), (hp, .inl (cI, 64, .inl PIv)), (hL, .inl (cI, 46, .inl Lv)), (hb9, .inl (cI, 4, .inl BT)), (hz9, .inl (cI, 4, .inl SZ)), (hn9, .inl (cI, 96, .inl NU))] → va_S AA s.heap H locs → W pg l ev ({ frames := 7, cells := 0, slots := 0, locals := 166 } : Room) s mt args below meth cd H locs 0 0 QQ (F0 mt 34 ls []) := by
        intro fu
        induction fu with
        | zero =>
          intro i NMv PIv Lv u9 hi hn
          exact absurd hn (by omega)
        | succ fu ih_34 =>
          intro i NMv PIv Lv u9 hi hn hu ls hl H locs hP hD hS
          refine lv_iload hx hb dX6_suspects_34 (lv_at hl 5 rfl) ?_
          refine lv_aload_n hx hb dX6_suspects_36 rfl (lv_at hl 0 rfl) ?_
          refine va_get (ci := 6) (v := .ref hs) (C := RX6) (T := TX6) (N := 20) hx hb hts hin6 hown hK hP 0 rfl rfl 0 (by decide) (hts (.fieldLink RX6 7 "UpAllRoundModel" "s" "[I") (List.mem_of_getElem? (i := 1) rfl)) (fun _ h9 => h9) hf0 dX6_suspects_37 ?_
          refine lv_iconst (v := nI 1) hx hb dX6_suspects_40 (by decide) ?_
          refine zald (t := 1) hx hb hK hP 1 rfl (by omega) (by decide) dX6_suspects_41 ?_
          refine zrw hn1 ?_
          refine lv_icmp_gt (tgt := 90) hx hb dX6_suspects_42 (by decide) (fun c42_7 => ?_) (fun c42_7 => ?_)
          · have c42_7 : n < i := (nI_ltI (a := n) (b := i) (by omega) (by omega)).mp c42_7
            refine lv_iload hx hb dX6_suspects_90 (lv_at hl 4 rfl) ?_
            exact hret hP hD hS dX6_suspects_92 rfl (by rw [show zo_suspects S E k n len0 tk0 mi BT SZ NU (nI j) (nI q) = (u9, S, E) from by rw [zo_suspects, if_pos (by assumption), if_pos hz0, nI_clamp (show j < 2147483648 by omega), nI_clamp (show q < 2147483648 by omega), hm, nI_clamp (show m < 2147483648 by omega), hu, show i = n + 1 from by omega]]; exact ⟨_, _, _, rfl, rfl⟩)
          · have c42_7 : ¬ (n < i) := fun h9 => c42_7 ((nI_ltI (a := n) (b := i) (by omega) (by omega)).mpr h9)
            refine lv_iload hx hb dX6_suspects_45 (lv_at hl 4 rfl) ?_
            refine lv_aload_n hx hb dX6_suspects_47 rfl (lv_at hl 0 rfl) ?_
            refine lv_iload_n hx hb dX6_suspects_48 rfl (lv_at hl 1 rfl) ?_
            refine lv_iload_n hx hb dX6_suspects_49 rfl (lv_at hl 2 rfl) ?_
            refine lv_iload hx hb dX6_suspects_50 (lv_at hl 5 rfl) ?_
            refine lv_aload_n hx hb dX6_suspects_52 rfl (lv_at hl 0 rfl) ?_
            refine va_get (ci := 6) (v := .ref hs) (C := RX6) (T := TX6) (N := 20) hx hb hts hin6 hown hK hP 0 rfl rfl 0 (by decide) (hts (.fieldLink RX6 7 "UpAllRoundModel" "s" "[I") (List.mem_of_getElem? (i := 1) rfl)) (fun _ h9 => h9) hf0 dX6_suspects_53 ?_
            refine lv_iconst (v := nI 1) hx hb dX6_suspects_56 (by decide) ?_
            refine zald (t := 1) hx hb hK hP 1 rfl (by omega) (by decide) dX6_suspects_57 ?_
            refine zrw hn1 ?_
            refine lv_icmp_ge (tgt := 66) hx hb dX6_suspects_58 (by decide) (fun c58_8 => ?_) (fun c58_8 => ?_)
            · have c58_8 : n ≤ i := (nI_leI (a := n) (b := i) (by omega) (by omega)).mp c58_8
              refine lv_iconst (v := (-1)) hx hb dX6_suspects_66 (by decide) ?_
              refine zci (wr := [(hE, .inl (cI, 7, .inl E)), (hb9, .inl (cI, 4, .inl BT))]) (va_runV (As := [.int (nI j), .int (nI q), .int ((-1))]) (rest := [.int u9]) ⟨hx, hb, hml, hown, hts⟩ (c_X6_countsSo l D cI cJ h hs fs S n k hN9 hp hL NMv PIv Lv len0 tk0 mi hz9 hn9 SZ NU m j q ((-1)) (by first | rfl | assumption | omega) (by first | rfl | assumption | omega) (by first | rfl | assumption | omega) (by first | rfl | assumption | omega) (by first | rfl | assumption | omega) (by first | rfl | assumption | omega) (by first | rfl | assumption | omega) (by first | rfl | assumption | omega) (by first | rfl | assumption | omega) (by first | rfl | assumption | omega) (by first | rfl | assumption | omega) (by first | rfl | assumption | omega) (by first | rfl | assumption | omega) (by first | rfl | assumption | omega) (by first | rfl | assumption | omega) (by first | rfl | assumption | omega) (by first | rfl | assumption | omega) (by first | rfl | assumption | omega) H.size) (cwV 3 hts gX6_suspects_X6_countsSo rfl rfl rfl (by decide +kernel) ⟨Nat.le_of_ble_eq_true rfl, Nat.le_of_ble_eq_true rfl⟩) (zpV hK hN hZ hP hD hS hA [0, 1, 3, 4, 5, 7, 8] rfl (by decide) 0 rfl rfl rfl) rfl rfl hl.1 rfl (lv_room (Nat.le_of_ble_eq_true rfl)) dX6_suspects_67 ⟨Nat.zero_le _, Nat.zero_le _⟩) hP hD hS hA [0, 1, 3, 4, 5, 7, 8] [2, 6] rfl rfl (by decide) (by decide) (fun r_11 w_10 H locs h_9 hP hD hS => ?_)
              obtain ⟨NM9_12, PI9_13, L9_14, rfl, rfl⟩ := h_9
              have hP : va_P D vwCl [(hE, .inl (cI, 7, .inl E)), (hb9, .inl (cI, 4, .inl BT)), (h, .inr (6, fs)), (hs, .inl (cI, 380, .inl S)), (hN9, .inl (cI, 128, .inl NM9_12)), (hp, .inl (cI, 64, .inl PI9_13)), (hL, .inl (cI, 46, .inl L9_14)), (hz9, .inl (cI, 4, .inl SZ)), (hn9, .inl (cI, 96, .inl NU))] H := hP
              have hD : va_D AA [(hE, .inl (cI, 7, .inl E)), (hb9, .inl (cI, 4, .inl BT)), (h, .inr (6, fs)), (hs, .inl (cI, 380, .inl S)), (hN9, .inl (cI, 128, .inl NM9_12)), (hp, .inl (cI, 64, .inl PI9_13)), (hL, .inl (cI, 46, .inl L9_14)), (hz9, .inl (cI, 4, .inl SZ)), (hn9, .inl (cI, 96, .inl NU))] := hD
              refine lv_if_eq (tgt := 80) hx hb dX6_suspects_70 (by decide) (fun c70_15 => ?_) (fun c70_15 => ?_)
              · have c70_15 := bI_0.mp c70_15
                refine lv_iconst (v := nI 0) hx hb dX6_suspects_80 (by decide) ?_
                refine lv_ior hx hb dX6_suspects_81 ?_
                refine lv_istore (lv' := [(4, .int (u9 ||| (nI 0))), (0, .ref h), (1, .int (nI j)), (2, .int (nI q)), (3, .int (nI ((zlk BT (nI q))))), (5, .int (nI i))]) hx hb dX6_suspects_82 hl (by decide) rfl (fun ls hl => ?_)
                refine lv_iinc (v := nI (i + 1)) (lv' := [(5, .int (nI (i + 1))), (4, .int (u9 ||| (nI 0))), (0, .ref h), (1, .int (nI j)), (2, .int (nI q)), (3, .int (nI ((zlk BT (nI q)))))]) hx hb dX6_suspects_84 hl (k := 5) rfl (nI_add _ _) (by decide) rfl (fun ls hl => ?_)
                refine lv_goto (tgt := 34) hx hb dX6_suspects_87 (by decide) ?_
                exact ih_34  (i + 1) NM9_12 PI9_13 L9_14 (u9 ||| (nI 0)) (by omega) (by omega) (by rw [hu]; exact (Int32.or_zero).trans (if_neg (show ¬ (fun x => zfind (zPso (zDSh S n len0 tk0 mi (zhid n x)) k j (fun y => NU (24 * q + y))) m 0 = m) i from by show ¬ zfind (zPso (zDSh S n len0 tk0 mi (zhid n i)) k j (fun y => NU (24 * q + y))) m 0 = m; rw [zhid, if_neg (by omega)]; exact c70_15)).symm) ls (lv_sub hl [2, 3, 4, 5, 1, 0] rfl) H locs (hP.sub [2, 3, 0, 4, 5, 6, 1, 7, 8] rfl) (hD.sub [2, 3, 0, 4, 5, 6, 1, 7, 8] (by decide) rfl) hS
              · have c70_15 := bI_n0.mp c70_15
                refine lv_iconst (v := nI 1) hx hb dX6_suspects_73 (by decide) ?_
                refine lv_iload hx hb dX6_suspects_74 (lv_at hl 5 rfl) ?_
                refine lv_ishl hx hb dX6_suspects_76 ?_
                refine lv_goto (tgt := 81) hx hb dX6_suspects_77 (by decide) ?_
                refine lv_ior hx hb dX6_suspects_81 ?_
                refine lv_istore (lv' := [(4, .int (u9 ||| ((nI 1) <<< ((nI i) &&& 31)))), (0, .ref h), (1, .int (nI j)), (2, .int (nI q)), (3, .int (nI ((zlk BT (nI q))))), (5, .int (nI i))]) hx hb dX6_suspects_82 hl (by decide) rfl (fun ls hl => ?_)
                refine lv_iinc (v := nI (i + 1)) (lv' := [(5, .int (nI (i + 1))), (4, .int (u9 ||| ((nI 1) <<< ((nI i) &&& 31)))), (0, .ref h), (1, .int (nI j)), (2, .int (nI q)), (3, .int (nI ((zlk BT (nI q)))))]) hx hb dX6_suspects_84 hl (k := 5) rfl (nI_add _ _) (by decide) rfl (fun ls hl => ?_)
                refine lv_goto (tgt := 34) hx hb dX6_suspects_87 (by decide) ?_
                exact ih_34  (i + 1) NM9_12 PI9_13 L9_14 (u9 ||| ((nI 1) <<< ((nI i) &&& 31))) (by omega) (by omega) (by rw [hu]; exact (if_pos (show (fun x => zfind (zPso (zDSh S n len0 tk0 mi (zhid n x)) k j (fun y => NU (24 * q + y))) m 0 = m) i from by show zfind (zPso (zDSh S n len0 tk0 mi (zhid n i)) k j (fun y => NU (24 * q + y))) m 0 = m; rw [zhid, if_neg (by omega)]; exact c70_15)).symm) ls (lv_sub hl [2, 3, 4, 5, 1, 0] rfl) H locs (hP.sub [2, 3, 0, 4, 5, 6, 1, 7, 8] rfl) (hD.sub [2, 3, 0, 4, 5, 6, 1, 7, 8] (by decide) rfl) hS
            · have c58_8 : ¬ (n ≤ i) := fun h9 => c58_8 ((nI_leI (a := n) (b := i) (by omega) (by omega)).mpr h9)
              refine lv_iload hx hb dX6_suspects_61 (lv_at hl 5 rfl) ?_
              refine lv_goto (tgt := 67) hx hb dX6_suspects_63 (by decide) ?_
              refine zci (wr := [(hE, .inl (cI, 7, .inl E)), (hb9, .inl (cI, 4, .inl BT))]) (va_runV (As := [.int (nI j), .int (nI q), .int (nI i)]) (rest := [.int u9]) ⟨hx, hb, hml, hown, hts⟩ (c_X6_countsSo l D cI cJ h hs fs S n k hN9 hp hL NMv PIv Lv len0 tk0 mi hz9 hn9 SZ NU m j q (nI i) (by first | rfl | assumption | omega) (by first | rfl | assumption | omega) (by first | rfl | assumption | omega) (by first | rfl | assumption | omega) (by first | rfl | assumption | omega) (by first | rfl | assumption | omega) (by first | rfl | assumption | omega) (by first | rfl | assumption | omega) (by first | rfl | assumption | omega) (by first | rfl | assumption | omega) (by first | rfl | assumption | omega) (by first | rfl | assumption | omega) (by first | rfl | assumption | omega) (by first | rfl | assumption | omega) (by first | rfl | assumption | omega) (by first | rfl | assumption | omega) (by first | rfl | assumption | omega) (by first | rfl | assumption | omega) H.size) (cwV 3 hts gX6_suspects_X6_countsSo rfl rfl rfl (by decide +kernel) ⟨Nat.le_of_ble_eq_true rfl, Nat.le_of_ble_eq_true rfl⟩) (zpV hK hN hZ hP hD hS hA [0, 1, 3, 4, 5, 7, 8] rfl (by decide) 0 rfl rfl rfl) rfl rfl hl.1 rfl (lv_room (Nat.le_of_ble_eq_true rfl)) dX6_suspects_67 ⟨Nat.zero_le _, Nat.zero_le _⟩) hP hD hS hA [0, 1, 3, 4, 5, 7, 8] [2, 6] rfl rfl (by decide) (by decide) (fun r_18 w_17 H locs h_16 hP hD hS => ?_)
              obtain ⟨NM9_19, PI9_20, L9_21, rfl, rfl⟩ := h_16
              have hP : va_P D vwCl [(hE, .inl (cI, 7, .inl E)), (hb9, .inl (cI, 4, .inl BT)), (h, .inr (6, fs)), (hs, .inl (cI, 380, .inl S)), (hN9, .inl (cI, 128, .inl NM9_19)), (hp, .inl (cI, 64, .inl PI9_20)), (hL, .inl (cI, 46, .inl L9_21)), (hz9, .inl (cI, 4, .inl SZ)), (hn9, .inl (cI, 96, .inl NU))] H := hP
              have hD : va_D AA [(hE, .inl (cI, 7, .inl E)), (hb9, .inl (cI, 4, .inl BT)), (h, .inr (6, fs)), (hs, .inl (cI, 380, .inl S)), (hN9, .inl (cI, 128, .inl NM9_19)), (hp, .inl (cI, 64, .inl PI9_20)), (hL, .inl (cI, 46, .inl L9_21)), (hz9, .inl (cI, 4, .inl SZ)), (hn9, .inl (cI, 96, .inl NU))] := hD
              refine lv_if_eq (tgt := 80) hx hb dX6_suspects_70 (by decide) (fun c70_22 => ?_) (fun c70_22 => ?_)
              · have c70_22 := bI_0.mp c70_22
                refine lv_iconst (v := nI 0) hx hb dX6_suspects_80 (by decide) ?_
                refine lv_ior hx hb dX6_suspects_81 ?_
                refine lv_istore (lv' := [(4, .int (u9 ||| (nI 0))), (0, .ref h), (1, .int (nI j)), (2, .int (nI q)), (3, .int (nI ((zlk BT (nI q))))), (5, .int (nI i))]) hx hb dX6_suspects_82 hl (by decide) rfl (fun ls hl => ?_)
                refine lv_iinc (v := nI (i + 1)) (lv' := [(5, .int (nI (i + 1))), (4, .int (u9 ||| (nI 0))), (0, .ref h), (1, .int (nI j)), (2, .int (nI q)), (3, .int (nI ((zlk BT (nI q)))))]) hx hb dX6_suspects_84 hl (k := 5) rfl (nI_add _ _) (by decide) rfl (fun ls hl => ?_)
                refine lv_goto (tgt := 34) hx hb dX6_suspects_87 (by decide) ?_
                exact ih_34  (i + 1) NM9_19 PI9_20 L9_21 (u9 ||| (nI 0)) (by omega) (by omega) (by rw [hu]; exact (Int32.or_zero).trans (if_neg (show ¬ (fun x => zfind (zPso (zDSh S n len0 tk0 mi (zhid n x)) k j (fun y => NU (24 * q + y))) m 0 = m) i from by show ¬ zfind (zPso (zDSh S n len0 tk0 mi (zhid n i)) k j (fun y => NU (24 * q + y))) m 0 = m; rw [zhid, if_pos (by omega)]; exact c70_22)).symm) ls (lv_sub hl [2, 3, 4, 5, 1, 0] rfl) H locs (hP.sub [2, 3, 0, 4, 5, 6, 1, 7, 8] rfl) (hD.sub [2, 3, 0, 4, 5, 6, 1, 7, 8] (by decide) rfl) hS
              · have c70_22 := bI_n0.mp c70_22
                refine lv_iconst (v := nI 1) hx hb dX6_suspects_73 (by decide) ?_
                refine lv_iload hx hb dX6_suspects_74 (lv_at hl 5 rfl) ?_
                refine lv_ishl hx hb dX6_suspects_76 ?_
                refine lv_goto (tgt := 81) hx hb dX6_suspects_77 (by decide) ?_
                refine lv_ior hx hb dX6_suspects_81 ?_
                refine lv_istore (lv' := [(4, .int (u9 ||| ((nI 1) <<< ((nI i) &&& 31)))), (0, .ref h), (1, .int (nI j)), (2, .int (nI q)), (3, .int (nI ((zlk BT (nI q))))), (5, .int (nI i))]) hx hb dX6_suspects_82 hl (by decide) rfl (fun ls hl => ?_)
                refine lv_iinc (v := nI (i + 1)) (lv' := [(5, .int (nI (i + 1))), (4, .int (u9 ||| ((nI 1) <<< ((nI i) &&& 31)))), (0, .ref h), (1, .int (nI j)), (2, .int (nI q)), (3, .int (nI ((zlk BT (nI q)))))]) hx hb dX6_suspects_84 hl (k := 5) rfl (nI_add _ _) (by decide) rfl (fun ls hl => ?_)
                refine lv_goto (tgt := 34) hx hb dX6_suspects_87 (by decide) ?_
                exact ih_34  (i + 1) NM9_19 PI9_20 L9_21 (u9 ||| ((nI 1) <<< ((nI i) &&& 31))) (by omega) (by omega) (by rw [hu]; exact (if_pos (show (fun x => zfind (zPso (zDSh S n len0 tk0 mi (zhid n x)) k j (fun y => NU (24 * q + y))) m 0 = m) i from by show zfind (zPso (zDSh S n len0 tk0 mi (zhid n i)) k j (fun y => NU (24 * q + y))) m 0 = m; rw [zhid, if_pos (by omega)]; exact c70_22)).symm) ls (lv_sub hl [2, 3, 4, 5, 1, 0] rfl) H locs (hP.sub [2, 3, 0, 4, 5, 6, 1, 7, 8] rfl) (hD.sub [2, 3, 0, 4, 5, 6, 1, 7, 8] (by decide) rfl) hS
      exact L_34 ((n + 1) + 1) 0 NM PI L ((nI 0)) (by omega) (by omega) rfl ls (lv_sub hl [3, 4, 5, 2, 1, 0] rfl) _ _ hP hD hS
    · have c19_6 : ¬ (((zlk BT sh)) = 0) := fun h9 => c19_6 ((nI_eq (a := (zlk BT sh)) (b := 0) (by omega) (by omega)).mpr h9)
      refine lv_aload_n hx hb dX6_suspects_22 rfl (lv_at hl 1 rfl) ?_
      refine lv_iload_n hx hb dX6_suspects_23 rfl (lv_at hl 0 rfl) ?_
      refine zci (wr := [(hs, .inl (cI, 380, .inl S)), (hN9, .inl (cI, 128, .inl NM)), (hp, .inl (cI, 64, .inl PI)), (hL, .inl (cI, 46, .inl L)), (hb9, .inl (cI, 4, .inl BT)), (hz9, .inl (cI, 4, .inl SZ)), (hn9, .inl (cI, 96, .inl NU))]) (va_runV (As := [.int (nI ((zlk BT sh)))]) (rest := []) ⟨hx, hb, hml, hown, hts⟩ (c_X6_error l D cI cJ h hE fs E ((zlk BT sh)) (by first | rfl | assumption | omega) (by have h98 := zlk_le BT sh; omega) s.heap.size) (cwV 1 hts gX6_suspects_X6_error rfl rfl rfl (by decide +kernel) ⟨Nat.le_of_ble_eq_true rfl, Nat.le_of_ble_eq_true rfl⟩) (zpV hK hN hZ hP hD hS hA [0, 2] rfl (by decide) 0 rfl rfl rfl) rfl rfl hl.1 rfl (lv_room (Nat.le_of_ble_eq_true rfl)) dX6_suspects_24 ⟨Nat.zero_le _, Nat.zero_le _⟩) hP hD hS hA [0, 2] [1, 3, 4, 5, 6, 7, 8] rfl rfl (by decide) (by decide) (fun r_25 w_24 H locs h_23 hP hD hS => ?_)
      obtain ⟨rfl, rfl⟩ := h_23
      have hP : va_P D vwCl [(hs, .inl (cI, 380, .inl S)), (hN9, .inl (cI, 128, .inl NM)), (hp, .inl (cI, 64, .inl PI)), (hL, .inl (cI, 46, .inl L)), (hb9, .inl (cI, 4, .inl BT)), (hz9, .inl (cI, 4, .inl SZ)), (hn9, .inl (cI, 96, .inl NU)), (h, .inr (6, fs)), (hE, .inl (cI, 7, .inl (upd E ((zlk BT sh)) (E ((zlk BT sh)) + nI 1))))] H := hP
      have hD : va_D AA [(hs, .inl (cI, 380, .inl S)), (hN9, .inl (cI, 128, .inl NM)), (hp, .inl (cI, 64, .inl PI)), (hL, .inl (cI, 46, .inl L)), (hb9, .inl (cI, 4, .inl BT)), (hz9, .inl (cI, 4, .inl SZ)), (hn9, .inl (cI, 96, .inl NU)), (h, .inr (6, fs)), (hE, .inl (cI, 7, .inl (upd E ((zlk BT sh)) (E ((zlk BT sh)) + nI 1))))] := hD
      have hP := hP.sub (ws' := [(h, .inr (6, fs)), (hs, .inl (cI, 380, .inl S)), (hE, .inl (cI, 7, .inl (upd E ((zlk BT sh)) (E ((zlk BT sh)) + nI 1)))), (hN9, .inl (cI, 128, .inl NM)), (hp, .inl (cI, 64, .inl PI)), (hL, .inl (cI, 46, .inl L)), (hb9, .inl (cI, 4, .inl BT)), (hz9, .inl (cI, 4, .inl SZ)), (hn9, .inl (cI, 96, .inl NU))]) [7, 0, 8, 1, 2, 3, 4, 5, 6] rfl
      have hD := hD.sub (ws' := [(h, .inr (6, fs)), (hs, .inl (cI, 380, .inl S)), (hE, .inl (cI, 7, .inl (upd E ((zlk BT sh)) (E ((zlk BT sh)) + nI 1)))), (hN9, .inl (cI, 128, .inl NM)), (hp, .inl (cI, 64, .inl PI)), (hL, .inl (cI, 46, .inl L)), (hb9, .inl (cI, 4, .inl BT)), (hz9, .inl (cI, 4, .inl SZ)), (hn9, .inl (cI, 96, .inl NU))]) [7, 0, 8, 1, 2, 3, 4, 5, 6] (by decide) rfl
      exact hret hP hD hS dX6_suspects_27 rfl (by rw [show zo_suspects S E k n len0 tk0 mi BT SZ NU (nI j) sh = zerrE (zlk BT sh) S E from by rw [zo_suspects, if_pos (by assumption), if_neg (by assumption)]]; exact ⟨_, _, _, rfl, rfl⟩)
