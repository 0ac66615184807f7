theorem zrn_nm {tk : zTk} {n1 n2 : Nat → Int32} (ST : Nat → Int32) {len : Nat} (h : ∀ i, i < len → (tk i).1 = 1 → n1 (tk i).2 = n2 (tk i).2) : zrn tk n1 ST len = zrn tk n2 ST len := by
  induction len with
  | zero => rfl
  | succ i ih =>
    show zst _ _ _ _ = zst _ _ _ _
    rw [ih (fun j hj => h j (by omega))]
    unfold zst
    by_cases e : (tk i).1 = 1
    · simp only [e, h i (by omega) e]
    · simp only [if_neg e]
theorem zval_nm {tk : zTk} {n1 n2 : Nat → Int32} {len : Nat} (hw : zWF len tk) (h : ∀ j, j < 3 → n1 j = n2 j) : zval tk n1 len = zval tk n2 len := by
  unfold zval
  rw [zrn_nm (n1 := n1) (n2 := n2) _ (fun i hi e => ?_)]
  have := (hw.2.1 i hi).1
  unfold ztok at this
  exact h _ (by omega)
/-- what a text gives, held within; without one d -/
def zgv (len : Nat) (tk : zTk) (a b c d lo hi : Int32) : Int32 := zheld (if 0 < len then zval tk (znm a b c) len else d) lo hi
abbrev zcnt (len : Nat) (tk : zTk) (r s t : Int32) : Int32 := zgv len tk r s t r (-99) 99
abbrev zwor (len : Nat) (tk : zTk) (s h c : Int32) : Int32 := zgv len tk s h c h 0 999
/-- how far up, how far down -/
def zgu (kd m mi : Nat) : Nat := if kd = 1 then 1 + m % 3 else if kd = 2 then 0 else if kd = 3 then (if mi % (m + 1) = 0 then 0 else 1) else if kd = 4 then 1 + m % 3 else if kd = 5 then 0 else if kd = 6 then (if mi % 4 = 0 then m + 1 else 0) else 1
def zgd (kd m mi : Nat) : Nat := if kd = 2 then 1 else if kd = 3 then (if mi % (m + 1) = 0 then 1 else 0) else if kd = 5 then 2 + m % 3 else 0
def zgoes (kd m mi : Nat) : Int32 := nI (zgu kd m mi) - nI (zgd kd m mi)
theorem zgo_one (kd m mi : Nat) : zgu kd m mi = 0 ∨ zgd kd m mi = 0 := by
  unfold zgu zgd
  by_cases h2 : kd = 2
  · subst h2; left; rfl
  · by_cases h5 : kd = 5
    · subst h5; left; rfl
    · by_cases h3 : kd = 3
      · subst h3
        by_cases h : mi % (m + 1) = 0
        · left; simp [h]
        · right; simp [h]
      · right; simp [h2, h3, h5]
theorem zgo_le {kd m mi : Nat} (hm : m < 10) : zgu kd m mi ≤ 10 ∧ zgd kd m mi ≤ 10 := by
  unfold zgu zgd
  have := Nat.mod_lt m (show 0 < 3 by decide)
  constructor
  · repeat' split
    all_goals omega
  · repeat' split
    all_goals omega
def zsgn (v : Int32) : Int32 := if 0 < v then 1 else if v < 0 then -1 else 0
def ztal (kd : Nat) (no : Int32) (k : Nat) (v : Int32) : Int32 := if nI k = no ∨ kd = 6 then 0 else if kd = 4 then zsgn v else if kd = 5 then nI 2 * v else v
def zwu (n : Nat) (T : Nat → Int32) : Nat → Nat × Int32 → Nat × Int32
  | 0, p => p
  | q + 1, p => zwu n T q ((p.1 + 1) % n, zheld (p.2 + T p.1) (-9999) 9999)
def zwd (n : Nat) (T : Nat → Int32) : Nat → Nat × Int32 → Nat × Int32
  | 0, p => p
  | q + 1, p => zwd n T q ((p.1 + (n - 1)) % n, zheld (p.2 - T ((p.1 + (n - 1)) % n)) (-9999) 9999)
/-- what one counts of each step -/
def zT (len : Nat) (tk : zTk) (R : Nat → Int32) (no : Int32) (mi kd : Nat) : Nat → Int32 := fun k => ztal kd no k (zcnt len tk (R k) (nI k) (nI mi))
/-- a minute of one climber -/
def zg1 (n len : Nat) (tk : zTk) (R : Nat → Int32) (no : Int32) (kd m mi : Nat) (p : Nat × Int32) : Nat × Int32 := zwd n (zT len tk R no mi kd) (zgd kd m mi) (zwu n (zT len tk R no mi kd) (zgu kd m mi) p)
theorem zwu_lt {n : Nat} {T : Nat → Int32} (hn : 0 < n) (q : Nat) : ∀ p : Nat × Int32, p.1 < n → (zwu n T q p).1 < n := by
  induction q with
  | zero => exact fun p h => h
  | succ q ih => exact fun p h => ih _ (Nat.mod_lt _ hn)
theorem zwd_lt {n : Nat} {T : Nat → Int32} (hn : 0 < n) (q : Nat) : ∀ p : Nat × Int32, p.1 < n → (zwd n T q p).1 < n := by
  induction q with
  | zero => exact fun p h => h
  | succ q ih => exact fun p h => ih _ (Nat.mod_lt _ hn)
theorem zg1_lt {n len : Nat} {tk : zTk} {R : Nat → Int32} {no : Int32} {kd m mi : Nat} {p : Nat × Int32} (hn : 0 < n) (h : p.1 < n) : (zg1 n len tk R no kd m mi p).1 < n := zwd_lt hn _ _ (zwu_lt hn _ _ h)
/-- where a climber is, and how high it thinks to be, behind q minutes -/
def zwk (n len : Nat) (tk : zTk) (R : Nat → Int32) (no : Int32) (kd m mi : Nat) (p : Nat × Int32) : Nat → Nat × Int32
  | 0 => p
  | q + 1 => zg1 n len tk R no kd m (mi + q) (zwk n len tk R no kd m mi p q)
theorem zwk_lt {n len : Nat} {tk : zTk} {R : Nat → Int32} {no : Int32} {kd m mi : Nat} {p : Nat × Int32} (hn : 0 < n) (h : p.1 < n) : ∀ q, (zwk n len tk R no kd m mi p q).1 < n
  | 0 => h
  | q + 1 => zg1_lt hn (zwk_lt hn h q)
set_option maxHeartbeats 4000000 in
set_option maxRecDepth 100000 in
theorem c_X6_goesBy (l : Launch) (D : va_G) (cI cJ : ClassId) (h : Nat) (hs : Nat) (fs : List Value) (S : Nat → Int32) (j : Nat) (kd : Nat) (m : Nat) (mi : Nat) (hf0 : fs[0]? = some (.ref hs)) (hj : j < 6) (hkd : S (8 + 4 * j + 0) = nI kd) (hmm : S (8 + 4 * j + 1) = nI m) (hmi : S 0 = nI mi) (hkd7 : kd < 7) (hm10 : m < 10) (hmi2 : mi < 20000) : zSi l yX6_goesBy wsX6_goesBy ({ frames := 1, cells := 0, slots := 0, locals := 22 } : Room) D [(cI, .int), (cJ, .array .int)] [.ref h, .int (nI j)] [(h, .inr (6, fs)), (hs, .inl (cI, 380, .inl S))] (fun r => r = zgoes kd m mi) := by
  refine zSi.start (cc := cX6_goesBy) (maxL := 3) (rt := .int) (by first | decide | decide +kernel) rfl (Nat.le_of_ble_eq_true rfl) ?_
  intro pg ev s mt args below meth cd ls AA QQ ⟨hx, hb, hml, hr, hlocks, hown, hts, hK, hN, hZ, hP, hD, hA, hS, hl⟩ hret
  have hown : s.vm.findClass RX6 = some mt.cls := hown
  have hl : lv_has ls 3 [(0, .ref h), (1, .int (nI j))] := hl
  have hin6 : ∀ w ∈ wsX60, w ∈ wsX6_goesBy := fun w h => List.mem_cons_of_mem _ (List.mem_append_right _ (h))
  refine lv_aload_n hx hb dX6_goesBy_0 rfl (lv_at hl 0 rfl) ?_
  refine lv_iload_n hx hb dX6_goesBy_1 rfl (lv_at hl 1 rfl) ?_
  refine lv_iconst (v := nI 1) hx hb dX6_goesBy_2 (by decide) ?_
  refine zcsE (va_runV (As := [.int (nI j), .int (nI 1)]) (rest := []) ⟨hx, hb, hml, hown, hts⟩ (c_X6_its l D cI cJ h hs fs S j 1 (by first | rfl | assumption | omega) (by first | rfl | assumption | omega) s.heap.size) (cwV 2 hts gX6_goesBy_X6_its rfl rfl rfl (by decide +kernel) ⟨Nat.le_of_ble_eq_true rfl, Nat.le_of_ble_eq_true rfl⟩) (zpV hK hN hZ hP hD hS hA [0, 1] rfl (by decide) 0 rfl rfl rfl) rfl rfl hl.1 rfl (lv_room (Nat.le_of_ble_eq_true rfl)) dX6_goesBy_3 ⟨Nat.zero_le _, Nat.zero_le _⟩) ?_
  refine zrw hmm ?_
  refine lv_istore_n (lv' := [(2, .int (nI m)), (0, .ref h), (1, .int (nI j))]) hx hb dX6_goesBy_6 rfl hl (by decide) rfl (fun ls hl => ?_)
  refine lv_aload_n hx hb dX6_goesBy_7 rfl (lv_at hl 1 rfl) ?_
  refine lv_iload_n hx hb dX6_goesBy_8 rfl (lv_at hl 2 rfl) ?_
  refine lv_iconst (v := nI 0) hx hb dX6_goesBy_9 (by decide) ?_
  refine zcsE (va_runV (As := [.int (nI j), .int (nI 0)]) (rest := []) ⟨hx, hb, hml, hown, hts⟩ (c_X6_its l D cI cJ h hs fs S j 0 (by first | rfl | assumption | omega) (by first | rfl | assumption | omega) s.heap.size) (cwV 2 hts gX6_goesBy_X6_its rfl rfl rfl (by decide +kernel) ⟨Nat.le_of_ble_eq_true rfl, Nat.le_of_ble_eq_true rfl⟩) (zpV hK hN hZ hP hD hS hA [0, 1] rfl (by decide) 0 rfl rfl rfl) rfl rfl hl.1 rfl (lv_room (Nat.le_of_ble_eq_true rfl)) dX6_goesBy_10 ⟨Nat.zero_le _, Nat.zero_le _⟩) ?_
  refine zrw hkd ?_
  by_cases k13_1 : kd = 1
  · refine lv_tableIn (off := 39) (tgt := 52) hx hb dX6_goesBy_13 (by rw [k13_1]; decide) (by rw [k13_1]; decide) (by rw [k13_1]; rfl) (by decide) ?_
    refine lv_iconst (v := nI 1) hx hb dX6_goesBy_52 (by decide) ?_
    refine lv_iload_n hx hb dX6_goesBy_53 rfl (lv_at hl 0 rfl) ?_
    refine lv_iconst (v := nI 3) hx hb dX6_goesBy_54 (by decide) ?_
    refine lv_irem hx hb dX6_goesBy_55 (by decide) ?_
    refine zrw (pk_rem (by omega) (by omega) (by omega)) ?_
    refine lv_iadd hx hb dX6_goesBy_56 ?_
    refine zrw (nI_add _ _) ?_
    exact hret dX6_goesBy_57 rfl (by subst k13_1; exact (Int32.sub_zero _).symm)
  by_cases k13_2 : kd = 2
  · refine lv_tableIn (off := 45) (tgt := 58) hx hb dX6_goesBy_13 (by rw [k13_2]; decide) (by rw [k13_2]; decide) (by rw [k13_2]; rfl) (by decide) ?_
    refine lv_iconst (v := (-1)) hx hb dX6_goesBy_58 (by decide) ?_
    exact hret dX6_goesBy_59 rfl (by subst k13_2; rfl)
  by_cases k13_3 : kd = 3
  · refine lv_tableIn (off := 47) (tgt := 60) hx hb dX6_goesBy_13 (by rw [k13_3]; decide) (by rw [k13_3]; decide) (by rw [k13_3]; rfl) (by decide) ?_
    refine lv_aload_n hx hb dX6_goesBy_60 rfl (lv_at hl 1 rfl) ?_
    refine va_get (ci := 6) (v := .ref hs) (C := RX6) (T := TX6) (N := 20) hx hb hts hin6 hown hK hP 0 rfl rfl 0 (by decide) (hts (.fieldLink RX6 7 "UpAllRoundModel" "s" "[I") (List.mem_of_getElem? (i := 1) rfl)) (fun _ h9 => h9) hf0 dX6_goesBy_61 ?_
    refine lv_iconst (v := nI 0) hx hb dX6_goesBy_64 (by decide) ?_
    refine zald (t := 0) hx hb hK hP 1 rfl (by omega) (by decide) dX6_goesBy_65 ?_
    refine zrw hmi ?_
    refine lv_iload_n hx hb dX6_goesBy_66 rfl (lv_at hl 0 rfl) ?_
    refine lv_iconst (v := nI 1) hx hb dX6_goesBy_67 (by decide) ?_
    refine lv_iadd hx hb dX6_goesBy_68 ?_
    refine zrw (nI_add _ _) ?_
    refine lv_irem hx hb dX6_goesBy_69 (nI_ne0 (by omega) (by omega)) ?_
    refine zrw (pk_rem (by omega) (by omega) (by omega)) ?_
    refine lv_if_ne (tgt := 77) hx hb dX6_goesBy_70 (by decide) (fun c70_4 => ?_) (fun c70_4 => ?_)
    · have c70_4 : ¬ ((mi % (m + 1)) = 0) := fun h9 => c70_4 ((nI_eq (a := mi % (m + 1)) (b := 0) (by have := Nat.mod_le mi (m + 1); omega) (by have := Nat.mod_le mi (m + 1); omega)).mpr h9)
      refine lv_iconst (v := nI 1) hx hb dX6_goesBy_77 (by decide) ?_
      exact hret dX6_goesBy_78 rfl (by subst k13_3; show _ = nI (if mi % (m + 1) = 0 then 0 else 1) - nI (if mi % (m + 1) = 0 then 1 else 0); rw [if_neg c70_4, if_neg c70_4]; rfl)
    · have c70_4 : (mi % (m + 1)) = 0 := (nI_eq (a := mi % (m + 1)) (b := 0) (by have := Nat.mod_le mi (m + 1); omega) (by have := Nat.mod_le mi (m + 1); omega)).mp c70_4
      refine lv_iconst (v := (-1)) hx hb dX6_goesBy_73 (by decide) ?_
      refine lv_goto (tgt := 78) hx hb dX6_goesBy_74 (by decide) ?_
      exact hret dX6_goesBy_78 rfl (by subst k13_3; show _ = nI (if mi % (m + 1) = 0 then 0 else 1) - nI (if mi % (m + 1) = 0 then 1 else 0); rw [if_pos c70_4, if_pos c70_4]; rfl)
  by_cases k13_5 : kd = 4
  · refine lv_tableIn (off := 39) (tgt := 52) hx hb dX6_goesBy_13 (by rw [k13_5]; decide) (by rw [k13_5]; decide) (by rw [k13_5]; rfl) (by decide) ?_
    refine lv_iconst (v := nI 1) hx hb dX6_goesBy_52 (by decide) ?_
    refine lv_iload_n hx hb dX6_goesBy_53 rfl (lv_at hl 0 rfl) ?_
    refine lv_iconst (v := nI 3) hx hb dX6_goesBy_54 (by decide) ?_
    refine lv_irem hx hb dX6_goesBy_55 (by decide) ?_
    refine zrw (pk_rem (by omega) (by omega) (by omega)) ?_
    refine lv_iadd hx hb dX6_goesBy_56 ?_
    refine zrw (nI_add _ _) ?_
    exact hret dX6_goesBy_57 rfl (by subst k13_5; exact (Int32.sub_zero _).symm)
  by_cases k13_6 : kd = 5
  · refine lv_tableIn (off := 66) (tgt := 79) hx hb dX6_goesBy_13 (by rw [k13_6]; decide) (by rw [k13_6]; decide) (by rw [k13_6]; rfl) (by decide) ?_
    refine lv_bipush (v := (-2)) hx hb dX6_goesBy_79 (by decide) ?_
    refine lv_iload_n hx hb dX6_goesBy_81 rfl (lv_at hl 0 rfl) ?_
    refine lv_iconst (v := nI 3) hx hb dX6_goesBy_82 (by decide) ?_
    refine lv_irem hx hb dX6_goesBy_83 (by decide) ?_
    refine zrw (pk_rem (by omega) (by omega) (by omega)) ?_
    refine lv_isub hx hb dX6_goesBy_84 ?_
    exact hret dX6_goesBy_85 rfl (by subst k13_6; show _ = nI 0 - nI (2 + m % 3); rcases (show m % 3 = 0 ∨ m % 3 = 1 ∨ m % 3 = 2 by omega) with q | q | q <;> rw [q] <;> decide)
  by_cases k13_7 : kd = 6
  · refine lv_tableIn (off := 73) (tgt := 86) hx hb dX6_goesBy_13 (by rw [k13_7]; decide) (by rw [k13_7]; decide) (by rw [k13_7]; rfl) (by decide) ?_
    refine lv_aload_n hx hb dX6_goesBy_86 rfl (lv_at hl 1 rfl) ?_
    refine va_get (ci := 6) (v := .ref hs) (C := RX6) (T := TX6) (N := 20) hx hb hts hin6 hown hK hP 0 rfl rfl 0 (by decide) (hts (.fieldLink RX6 7 "UpAllRoundModel" "s" "[I") (List.mem_of_getElem? (i := 1) rfl)) (fun _ h9 => h9) hf0 dX6_goesBy_87 ?_
    refine lv_iconst (v := nI 0) hx hb dX6_goesBy_90 (by decide) ?_
    refine zald (t := 0) hx hb hK hP 1 rfl (by omega) (by decide) dX6_goesBy_91 ?_
    refine zrw hmi ?_
    refine lv_iconst (v := nI 4) hx hb dX6_goesBy_92 (by decide) ?_
    refine lv_irem hx hb dX6_goesBy_93 (by decide) ?_
    refine zrw (pk_rem (by omega) (by omega) (by omega)) ?_
    refine lv_if_ne (tgt := 103) hx hb dX6_goesBy_94 (by decide) (fun c94_8 => ?_) (fun c94_8 => ?_)
    · have c94_8 : ¬ ((mi % 4) = 0) := fun h9 => c94_8 ((nI_eq (a := mi % 4) (b := 0) (by omega) (by omega)).mpr h9)
      refine lv_iconst (v := nI 0) hx hb dX6_goesBy_103 (by decide) ?_
      exact hret dX6_goesBy_104 rfl (by subst k13_7; show _ = nI (if mi % 4 = 0 then m + 1 else 0) - nI 0; rw [if_neg c94_8]; exact (Int32.sub_zero _).symm)
    · have c94_8 : (mi % 4) = 0 := (nI_eq (a := mi % 4) (b := 0) (by omega) (by omega)).mp c94_8
      refine lv_iload_n hx hb dX6_goesBy_97 rfl (lv_at hl 0 rfl) ?_
      refine lv_iconst (v := nI 1) hx hb dX6_goesBy_98 (by decide) ?_
      refine lv_iadd hx hb dX6_goesBy_99 ?_
      refine zrw (nI_add _ _) ?_
      refine lv_goto (tgt := 104) hx hb dX6_goesBy_100 (by decide) ?_
      exact hret dX6_goesBy_104 rfl (by subst k13_7; show _ = nI (if mi % 4 = 0 then m + 1 else 0) - nI 0; rw [if_pos c94_8]; exact (Int32.sub_zero _).symm)
  refine lv_tableOut (tgt := 105) hx hb dX6_goesBy_13 (by rw [nI_toInt (by omega)]; omega) (by decide) ?_
  refine lv_iconst (v := nI 1) hx hb dX6_goesBy_105 (by decide) ?_
  exact hret dX6_goesBy_106 rfl (by (have e0 : kd = 0 := (by omega)); subst e0; exact (Int32.sub_zero _).symm)
set_option maxHeartbeats 4000000 in
set_option maxRecDepth 100000 in
theorem c_X6_countedTold (l : Launch) (D : va_G) (cI cJ : ClassId) (h : Nat) (hs : Nat) (hN9 : Nat) (hp : Nat) (fs : List Value) (S : Nat → Int32) (NM : Nat → Int32) (PI : Nat → Int32) (len : Nat) (tk : zTk) (a1 : Int32) (a2 : Int32) (a3 : Int32) (hf0 : fs[0]? = some (.ref hs)) (hf10 : fs[10]? = some (.ref hN9)) (hf11 : fs[11]? = some (.ref hp)) (htx : zTX S 0 len tk) (hwf : zWF len tk) : zMi l yX6_countedTold wsX6_countedTold ({ frames := 2, cells := 0, slots := 0, locals := 48 } : Room) D [(cI, .int), (cJ, .array .int)] [.ref h, .int a1, .int a2, .int a3] [(h, .inr (6, fs)), (hs, .inl (cI, 380, .inl S)), (hN9, .inl (cI, 128, .inl NM)), (hp, .inl (cI, 64, .inl PI))] (fun r w => ∃ NM9 PI9 : Nat → Int32, r = zcnt len tk a1 a2 a3 ∧ w = [(h, .inr (6, fs)), (hs, .inl (cI, 380, .inl S)), (hN9, .inl (cI, 128, .inl NM9)), (hp, .inl (cI, 64, .inl PI9))]) := by
  refine zMi.start (cc := cX6_countedTold) (maxL := 4) (rt := .int) (by first | decide | decide +kernel) rfl (Nat.le_of_ble_eq_true rfl) ?_
  intro pg ev s mt args below meth cd ls AA QQ ⟨hx, hb, hml, hr, hlocks, hown, hts, hK, hN, hZ, hP, hD, hA, hS, hl⟩ hret
  have hown : s.vm.findClass RX6 = some mt.cls := hown
  have hl : lv_has ls 4 [(0, .ref h), (1, .int a1), (2, .int a2), (3, .int a3)] := hl
  have hin6 : ∀ w ∈ wsX60, w ∈ wsX6_countedTold := fun w h => List.mem_cons_of_mem _ (List.mem_append_right _ (h))
  refine lv_aload_n hx hb dX6_countedTold_0 rfl (lv_at hl 0 rfl) ?_
  refine va_get (ci := 6) (v := .ref hN9) (C := RX6) (T := TX6) (N := 20) hx hb hts hin6 hown hK hP 0 rfl rfl 10 (by decide) (hts (.fieldLink RX6 25 "UpAllRoundModel" "named" "[I") (List.mem_of_getElem? (i := 1) rfl)) (fun _ h9 => h9) hf10 dX6_countedTold_1 ?_
  refine lv_bipush (v := nI 114) hx hb dX6_countedTold_4 (by decide) ?_
  refine lv_iload_n hx hb dX6_countedTold_6 rfl (lv_at hl 1 rfl) ?_
  refine zast (t := 114) hx hb hK hP hD hS 2 rfl (by omega) (by decide) dX6_countedTold_7 (fun H locs hP hD hS => ?_)
  have hP : va_P D vwCl [(h, .inr (6, fs)), (hs, .inl (cI, 380, .inl S)), (hN9, .inl (cI, 128, .inl (upd NM 114 a1))), (hp, .inl (cI, 64, .inl PI))] H := hP
  have hD : va_D AA [(h, .inr (6, fs)), (hs, .inl (cI, 380, .inl S)), (hN9, .inl (cI, 128, .inl (upd NM 114 a1))), (hp, .inl (cI, 64, .inl PI))] := hD
  refine lv_aload_n hx hb dX6_countedTold_8 rfl (lv_at hl 0 rfl) ?_
  refine va_get (ci := 6) (v := .ref hN9) (C := RX6) (T := TX6) (N := 20) hx hb hts hin6 hown hK hP 0 rfl rfl 10 (by decide) (hts (.fieldLink RX6 25 "UpAllRoundModel" "named" "[I") (List.mem_of_getElem? (i := 1) rfl)) (fun _ h9 => h9) hf10 dX6_countedTold_9 ?_
  refine lv_bipush (v := nI 115) hx hb dX6_countedTold_12 (by decide) ?_
  refine lv_iload_n hx hb dX6_countedTold_14 rfl (lv_at hl 2 rfl) ?_
  refine zast (t := 115) hx hb hK hP hD hS 2 rfl (by omega) (by decide) dX6_countedTold_15 (fun H locs hP hD hS => ?_)
  have hP : va_P D vwCl [(h, .inr (6, fs)), (hs, .inl (cI, 380, .inl S)), (hN9, .inl (cI, 128, .inl (upd (upd NM 114 a1) 115 a2))), (hp, .inl (cI, 64, .inl PI))] H := hP
  have hD : va_D AA [(h, .inr (6, fs)), (hs, .inl (cI, 380, .inl S)), (hN9, .inl (cI, 128, .inl (upd (upd NM 114 a1) 115 a2))), (hp, .inl (cI, 64, .inl PI))] := hD
  refine lv_aload_n hx hb dX6_countedTold_16 rfl (lv_at hl 0 rfl) ?_
  refine va_get (ci := 6) (v := .ref hN9) (C := RX6) (T := TX6) (N := 20) hx hb hts hin6 hown hK hP 0 rfl rfl 10 (by decide) (hts (.fieldLink RX6 25 "UpAllRoundModel" "named" "[I") (List.mem_of_getElem? (i := 1) rfl)) (fun _ h9 => h9) hf10 dX6_countedTold_17 ?_
  refine lv_bipush (v := nI 116) hx hb dX6_countedTold_20 (by decide) ?_
  refine lv_iload_n hx hb dX6_countedTold_22 rfl (lv_at hl 3 rfl) ?_
  refine zast (t := 116) hx hb hK hP hD hS 2 rfl (by omega) (by decide) dX6_countedTold_23 (fun H locs hP hD hS => ?_)
  have hP : va_P D vwCl [(h, .inr (6, fs)), (hs, .inl (cI, 380, .inl S)), (hN9, .inl (cI, 128, .inl (upd (upd (upd NM 114 a1) 115 a2) 116 a3))), (hp, .inl (cI, 64, .inl PI))] H := hP
  have hD : va_D AA [(h, .inr (6, fs)), (hs, .inl (cI, 380, .inl S)), (hN9, .inl (cI, 128, .inl (upd (upd (upd NM 114 a1) 115 a2) 116 a3))), (hp, .inl (cI, 64, .inl PI))] := hD
  refine lv_aload_n hx hb dX6_countedTold_24 rfl (lv_at hl 0 rfl) ?_
  refine lv_iconst (v := nI 0) hx hb dX6_countedTold_25 (by decide) ?_
  refine zcsE (va_runV (As := [.int (nI 0)]) (rest := []) ⟨hx, hb, hml, hown, hts⟩ (c_X6_hasText l D cI cJ h hs fs S 0 len (by first | rfl | assumption | omega) (by decide) htx.1 hwf.1 H.size) (cwV 1 hts gX6_countedTold_X6_hasText rfl rfl rfl (by decide +kernel) ⟨Nat.le_of_ble_eq_true rfl, Nat.le_of_ble_eq_true rfl⟩) (zpV hK hN hZ hP hD hS hA [0, 1] rfl (by decide) 0 rfl rfl rfl) rfl rfl hl.1 rfl (lv_room (Nat.le_of_ble_eq_true rfl)) dX6_countedTold_26 ⟨Nat.zero_le _, Nat.zero_le _⟩) ?_
  refine lv_if_eq (tgt := 40) hx hb dX6_countedTold_29 (by decide) (fun c29_1 => ?_) (fun c29_1 => ?_)
  · have c29_1 := bI_0.mp c29_1
    refine lv_iload_n hx hb dX6_countedTold_40 rfl (lv_at hl 1 rfl) ?_
    refine lv_bipush (v := (-99)) hx hb dX6_countedTold_41 (by decide) ?_
    refine lv_bipush (v := nI 99) hx hb dX6_countedTold_43 (by decide) ?_
    refine zcsE (va_runS (As := [.int a1, .int ((-99)), .int (nI 99)]) (rest := []) ⟨hx, hb, hml, hown, hts⟩ (c_X6_held l D cI cJ a1 ((-99)) (nI 99)  H.size) (va_cwS 3 hts gX6_countedTold_X6_held rfl rfl rfl (by decide +kernel) ⟨Nat.le_of_ble_eq_true rfl, Nat.le_of_ble_eq_true rfl⟩) (zpS hK hN hZ hP hD hS hA [] rfl (by decide)) rfl rfl hl.1 rfl (lv_room (Nat.le_of_ble_eq_true rfl)) dX6_countedTold_45 ⟨Nat.zero_le _, Nat.zero_le _⟩) ?_
    exact hret hP hD hS dX6_countedTold_48 rfl (by refine ⟨_, _, ?_, rfl⟩; show zheld _ _ _ = zheld (if 0 < len then zval tk (znm a1 a2 a3) len else a1) _ _; rw [if_neg c29_1]; rfl)
  · have c29_1 := bI_n0.mp c29_1
    refine lv_aload_n hx hb dX6_countedTold_32 rfl (lv_at hl 0 rfl) ?_
    refine lv_iconst (v := nI 0) hx hb dX6_countedTold_33 (by decide) ?_
    refine zci (wr := []) (va_runV (As := [.int (nI 0)]) (rest := []) ⟨hx, hb, hml, hown, hts⟩ (c_X6_worked l D cI cJ h hs hN9 hp fs S (upd (upd (upd NM 114 a1) 115 a2) 116 a3) PI 0 len tk (by first | rfl | assumption | omega) (by first | rfl | assumption | omega) (by first | rfl | assumption | omega) (by decide) (by first | rfl | assumption | omega) (by first | rfl | assumption | omega) (by first | rfl | assumption | omega) H.size) (cwV 1 hts gX6_countedTold_X6_worked rfl rfl rfl (by decide +kernel) ⟨Nat.le_of_ble_eq_true rfl, Nat.le_of_ble_eq_true rfl⟩) (zpV hK hN hZ hP hD hS hA [0, 1, 2, 3] rfl (by decide) 0 rfl rfl rfl) rfl rfl hl.1 rfl (lv_room (Nat.le_of_ble_eq_true rfl)) dX6_countedTold_34 ⟨Nat.zero_le _, Nat.zero_le _⟩) hP hD hS hA [0, 1, 2, 3] [] rfl rfl (by decide) (by decide) (fun r_4 w_3 H locs h_2 hP hD hS => ?_)
    obtain ⟨rfl, rfl⟩ := h_2
    have hP : va_P D vwCl [(h, .inr (6, fs)), (hs, .inl (cI, 380, .inl S)), (hN9, .inl (cI, 128, .inl ((upd (upd (upd NM 114 a1) 115 a2) 116 a3)))), (hp, .inl (cI, 64, .inl (zrn tk (fun j => (upd (upd (upd NM 114 a1) 115 a2) 116 a3) (zch 0 j)) PI len)))] H := hP
    have hD : va_D AA [(h, .inr (6, fs)), (hs, .inl (cI, 380, .inl S)), (hN9, .inl (cI, 128, .inl ((upd (upd (upd NM 114 a1) 115 a2) 116 a3)))), (hp, .inl (cI, 64, .inl (zrn tk (fun j => (upd (upd (upd NM 114 a1) 115 a2) 116 a3) (zch 0 j)) PI len)))] := hD
    refine lv_goto (tgt := 41) hx hb dX6_countedTold_37 (by decide) ?_
    refine lv_bipush (v := (-99)) hx hb dX6_countedTold_41 (by decide) ?_
    refine lv_bipush (v := nI 99) hx hb dX6_countedTold_43 (by decide) ?_
    refine zcsE (va_runS (As := [.int (zval tk (fun j => (upd (upd (upd NM 114 a1) 115 a2) 116 a3) (zch 0 j)) len), .int ((-99)), .int (nI 99)]) (rest := []) ⟨hx, hb, hml, hown, hts⟩ (c_X6_held l D cI cJ (zval tk (fun j => (upd (upd (upd NM 114 a1) 115 a2) 116 a3) (zch 0 j)) len) ((-99)) (nI 99)  H.size) (va_cwS 3 hts gX6_countedTold_X6_held rfl rfl rfl (by decide +kernel) ⟨Nat.le_of_ble_eq_true rfl, Nat.le_of_ble_eq_true rfl⟩) (zpS hK hN hZ hP hD hS hA [] rfl (by decide)) rfl rfl hl.1 rfl (lv_room (Nat.le_of_ble_eq_true rfl)) dX6_countedTold_45 ⟨Nat.zero_le _, Nat.zero_le _⟩) ?_
    exact hret hP hD hS dX6_countedTold_48 rfl (by refine ⟨_, _, ?_, rfl⟩; show zheld _ _ _ = zheld (if 0 < len then zval tk (znm a1 a2 a3) len else a1) _ _; rw [if_pos c29_1, zval_nm hwf (n1 := _) (n2 := znm a1 a2 a3) (by intro j hj; rcases (show j = 0 ∨ j = 1 ∨ j = 2 by omega) with q | q | q <;> subst q <;> simp [zch, znm, upd])]; rfl)
set_option maxHeartbeats 4000000 in
set_option maxRecDepth 100000 in
theorem c_X6_worthTold (l : Launch) (D : va_G) (cI cJ : ClassId) (h : Nat) (hs : Nat) (hN9 : Nat) (hp : Nat) (fs : List Value) (S : Nat → Int32) (NM : Nat → Int32) (PI : Nat → Int32) (len : Nat) (tk : zTk) (a1 : Int32) (a2 : Int32) (a3 : Int32) (hf0 : fs[0]? = some (.ref hs)) (hf10 : fs[10]? = some (.ref hN9)) (hf11 : fs[11]? = some (.ref hp)) (htx : zTX S 1 len tk) (hwf : zWF len tk) : zMi l yX6_worthTold wsX6_worthTold ({ frames := 2, cells := 0, slots := 0, locals := 48 } : Room) D [(cI, .int), (cJ, .array .int)] [.ref h, .int a1, .int a2, .int a3] [(h, .inr (6, fs)), (hs, .inl (cI, 380, .inl S)), (hN9, .inl (cI, 128, .inl NM)), (hp, .inl (cI, 64, .inl PI))] (fun r w => ∃ NM9 PI9 : Nat → Int32, r = zwor len tk a1 a2 a3 ∧ w = [(h, .inr (6, fs)), (hs, .inl (cI, 380, .inl S)), (hN9, .inl (cI, 128, .inl NM9)), (hp, .inl (cI, 64, .inl PI9))]) := by
  refine zMi.start (cc := cX6_worthTold) (maxL := 4) (rt := .int) (by first | decide | decide +kernel) rfl (Nat.le_of_ble_eq_true rfl) ?_
  intro pg ev s mt args below meth cd ls AA QQ ⟨hx, hb, hml, hr, hlocks, hown, hts, hK, hN, hZ, hP, hD, hA, hS, hl⟩ hret
  have hown : s.vm.findClass RX6 = some mt.cls := hown
  have hl : lv_has ls 4 [(0, .ref h), (1, .int a1), (2, .int a2), (3, .int a3)] := hl
  have hin6 : ∀ w ∈ wsX60, w ∈ wsX6_worthTold := fun w h => List.mem_cons_of_mem _ (List.mem_append_right _ (h))
  refine lv_aload_n hx hb dX6_worthTold_0 rfl (lv_at hl 0 rfl) ?_
  refine va_get (ci := 6) (v := .ref hN9) (C := RX6) (T := TX6) (N := 20) hx hb hts hin6 hown hK hP 0 rfl rfl 10 (by decide) (hts (.fieldLink RX6 25 "UpAllRoundModel" "named" "[I") (List.mem_of_getElem? (i := 1) rfl)) (fun _ h9 => h9) hf10 dX6_worthTold_1 ?_
  refine lv_bipush (v := nI 115) hx hb dX6_worthTold_4 (by decide) ?_
  refine lv_iload_n hx hb dX6_worthTold_6 rfl (lv_at hl 1 rfl) ?_
  refine zast (t := 115) hx hb hK hP hD hS 2 rfl (by omega) (by decide) dX6_worthTold_7 (fun H locs hP hD hS => ?_)
  have hP : va_P D vwCl [(h, .inr (6, fs)), (hs, .inl (cI, 380, .inl S)), (hN9, .inl (cI, 128, .inl (upd NM 115 a1))), (hp, .inl (cI, 64, .inl PI))] H := hP
  have hD : va_D AA [(h, .inr (6, fs)), (hs, .inl (cI, 380, .inl S)), (hN9, .inl (cI, 128, .inl (upd NM 115 a1))), (hp, .inl (cI, 64, .inl PI))] := hD
  refine lv_aload_n hx hb dX6_worthTold_8 rfl (lv_at hl 0 rfl) ?_
  refine va_get (ci := 6) (v := .ref hN9) (C := RX6) (T := TX6) (N := 20) hx hb hts hin6 hown hK hP 0 rfl rfl 10 (by decide) (hts (.fieldLink RX6 25 "UpAllRoundModel" "named" "[I") (List.mem_of_getElem? (i := 1) rfl)) (fun _ h9 => h9) hf10 dX6_worthTold_9 ?_
  refine lv_bipush (v := nI 104) hx hb dX6_worthTold_12 (by decide) ?_
  refine lv_iload_n hx hb dX6_worthTold_14 rfl (lv_at hl 2 rfl) ?_
  refine zast (t := 104) hx hb hK hP hD hS 2 rfl (by omega) (by decide) dX6_worthTold_15 (fun H locs hP hD hS => ?_)
  have hP : va_P D vwCl [(h, .inr (6, fs)), (hs, .inl (cI, 380, .inl S)), (hN9, .inl (cI, 128, .inl (upd (upd NM 115 a1) 104 a2))), (hp, .inl (cI, 64, .inl PI))] H := hP
  have hD : va_D AA [(h, .inr (6, fs)), (hs, .inl (cI, 380, .inl S)), (hN9, .inl (cI, 128, .inl (upd (upd NM 115 a1) 104 a2))), (hp, .inl (cI, 64, .inl PI))] := hD
  refine lv_aload_n hx hb dX6_worthTold_16 rfl (lv_at hl 0 rfl) ?_
  refine va_get (ci := 6) (v := .ref hN9) (C := RX6) (T := TX6) (N := 20) hx hb hts hin6 hown hK hP 0 rfl rfl 10 (by decide) (hts (.fieldLink RX6 25 "UpAllRoundModel" "named" "[I") (List.mem_of_getElem? (i := 1) rfl)) (fun _ h9 => h9) hf10 dX6_worthTold_17 ?_
  refine lv_bipush (v := nI 99) hx hb dX6_worthTold_20 (by decide) ?_
  refine lv_iload_n hx hb dX6_worthTold_22 rfl (lv_at hl 3 rfl) ?_
  refine zast (t := 99) hx hb hK hP hD hS 2 rfl (by omega) (by decide) dX6_worthTold_23 (fun H locs hP hD hS => ?_)
  have hP : va_P D vwCl [(h, .inr (6, fs)), (hs, .inl (cI, 380, .inl S)), (hN9, .inl (cI, 128, .inl (upd (upd (upd NM 115 a1) 104 a2) 99 a3))), (hp, .inl (cI, 64, .inl PI))] H := hP
  have hD : va_D AA [(h, .inr (6, fs)), (hs, .inl (cI, 380, .inl S)), (hN9, .inl (cI, 128, .inl (upd (upd (upd NM 115 a1) 104 a2) 99 a3))), (hp, .inl (cI, 64, .inl PI))] := hD
  refine lv_aload_n hx hb dX6_worthTold_24 rfl (lv_at hl 0 rfl) ?_
  refine lv_iconst (v := nI 1) hx hb dX6_worthTold_25 (by decide) ?_
  refine zcsE (va_runV (As := [.int (nI 1)]) (rest := []) ⟨hx, hb, hml, hown, hts⟩ (c_X6_hasText l D cI cJ h hs fs S 1 len (by first | rfl | assumption | omega) (by decide) htx.1 hwf.1 H.size) (cwV 1 hts gX6_worthTold_X6_hasText rfl rfl rfl (by decide +kernel) ⟨Nat.le_of_ble_eq_true rfl, Nat.le_of_ble_eq_true rfl⟩) (zpV hK hN hZ hP hD hS hA [0, 1] rfl (by decide) 0 rfl rfl rfl) rfl rfl hl.1 rfl (lv_room (Nat.le_of_ble_eq_true rfl)) dX6_worthTold_26 ⟨Nat.zero_le _, Nat.zero_le _⟩) ?_
  refine lv_if_eq (tgt := 40) hx hb dX6_worthTold_29 (by decide) (fun c29_1 => ?_) (fun c29_1 => ?_)
  · have c29_1 := bI_0.mp c29_1
    refine lv_iload_n hx hb dX6_worthTold_40 rfl (lv_at hl 2 rfl) ?_
    refine lv_iconst (v := nI 0) hx hb dX6_worthTold_41 (by decide) ?_
    refine lv_sipush (v := nI 999) hx hb dX6_worthTold_42 (by decide) ?_
    refine zcsE (va_runS (As := [.int a2, .int (nI 0), .int (nI 999)]) (rest := []) ⟨hx, hb, hml, hown, hts⟩ (c_X6_held l D cI cJ a2 (nI 0) (nI 999)  H.size) (va_cwS 3 hts gX6_worthTold_X6_held rfl rfl rfl (by decide +kernel) ⟨Nat.le_of_ble_eq_true rfl, Nat.le_of_ble_eq_true rfl⟩) (zpS hK hN hZ hP hD hS hA [] rfl (by decide)) rfl rfl hl.1 rfl (lv_room (Nat.le_of_ble_eq_true rfl)) dX6_worthTold_45 ⟨Nat.zero_le _, Nat.zero_le _⟩) ?_
    exact hret hP hD hS dX6_worthTold_48 rfl (by refine ⟨_, _, ?_, rfl⟩; show zheld _ _ _ = zheld (if 0 < len then zval tk (znm a1 a2 a3) len else a2) _ _; rw [if_neg c29_1]; rfl)
  · have c29_1 := bI_n0.mp c29_1
    refine lv_aload_n hx hb dX6_worthTold_32 rfl (lv_at hl 0 rfl) ?_
    refine lv_iconst (v := nI 1) hx hb dX6_worthTold_33 (by decide) ?_
    refine zci (wr := []) (va_runV (As := [.int (nI 1)]) (rest := []) ⟨hx, hb, hml, hown, hts⟩ (c_X6_worked l D cI cJ h hs hN9 hp fs S (upd (upd (upd NM 115 a1) 104 a2) 99 a3) PI 1 len tk (by first | rfl | assumption | omega) (by first | rfl | assumption | omega) (by first | rfl | assumption | omega) (by decide) (by first | rfl | assumption | omega) (by first | rfl | assumption | omega) (by first | rfl | assumption | omega) H.size) (cwV 1 hts gX6_worthTold_X6_worked rfl rfl rfl (by decide +kernel) ⟨Nat.le_of_ble_eq_true rfl, Nat.le_of_ble_eq_true rfl⟩) (zpV hK hN hZ hP hD hS hA [0, 1, 2, 3] rfl (by decide) 0 rfl rfl rfl) rfl rfl hl.1 rfl (lv_room (Nat.le_of_ble_eq_true rfl)) dX6_worthTold_34 ⟨Nat.zero_le _, Nat.zero_le _⟩) hP hD hS hA [0, 1, 2, 3] [] rfl rfl (by decide) (by decide) (fun r_4 w_3 H locs h_2 hP hD hS => ?_)
    obtain ⟨rfl, rfl⟩ := h_2
    have hP : va_P D vwCl [(h, .inr (6, fs)), (hs, .inl (cI, 380, .inl S)), (hN9, .inl (cI, 128, .inl ((upd (upd (upd NM 115 a1) 104 a2) 99 a3)))), (hp, .inl (cI, 64, .inl (zrn tk (fun j => (upd (upd (upd NM 115 a1) 104 a2) 99 a3) (zch 1 j)) PI len)))] H := hP
    have hD : va_D AA [(h, .inr (6, fs)), (hs, .inl (cI, 380, .inl S)), (hN9, .inl (cI, 128, .inl ((upd (upd (upd NM 115 a1) 104 a2) 99 a3)))), (hp, .inl (cI, 64, .inl (zrn tk (fun j => (upd (upd (upd NM 115 a1) 104 a2) 99 a3) (zch 1 j)) PI len)))] := hD
    refine lv_goto (tgt := 41) hx hb dX6_worthTold_37 (by decide) ?_
    refine lv_iconst (v := nI 0) hx hb dX6_worthTold_41 (by decide) ?_
    refine lv_sipush (v := nI 999) hx hb dX6_worthTold_42 (by decide) ?_
    refine zcsE (va_runS (As := [.int (zval tk (fun j => (upd (upd (upd NM 115 a1) 104 a2) 99 a3) (zch 1 j)) len), .int (nI 0), .int (nI 999)]) (rest := []) ⟨hx, hb, hml, hown, hts⟩ (c_X6_held l D cI cJ (zval tk (fun j => (upd (upd (upd NM 115 a1) 104 a2) 99 a3) (zch 1 j)) len) (nI 0) (nI 999)  H.size) (va_cwS 3 hts gX6_worthTold_X6_held rfl rfl rfl (by decide +kernel) ⟨Nat.le_of_ble_eq_true rfl, Nat.le_of_ble_eq_true rfl⟩) (zpS hK hN hZ hP hD hS hA [] rfl (by decide)) rfl rfl hl.1 rfl (lv_room (Nat.le_of_ble_eq_true rfl)) dX6_worthTold_45 ⟨Nat.zero_le _, Nat.zero_le _⟩) ?_
    exact hret hP hD hS dX6_worthTold_48 rfl (by refine ⟨_, _, ?_, rfl⟩; show zheld _ _ _ = zheld (if 0 < len then zval tk (znm a1 a2 a3) len else a2) _ _; rw [if_pos c29_1, zval_nm hwf (n1 := _) (n2 := znm a1 a2 a3) (by intro j hj; rcases (show j = 0 ∨ j = 1 ∨ j = 2 by omega) with q | q | q <;> subst q <;> simp [zch, znm, upd])]; rfl)
set_option maxHeartbeats 4000000 in
set_option maxRecDepth 100000 in
theorem c_X3_goes (l : Launch) (D : va_G) (cI cJ : ClassId) (h : Nat) (hk : Nat) (hm : Nat) (fs : List Value) (KD : Nat → Int32) (MM : Nat → Int32) (j : Nat) (kd : Nat) (m : Nat) (mi : Nat) (hf3 : fs[3]? = some (.int (nI mi))) (hf5 : fs[5]? = some (.ref hk)) (hf6 : fs[6]? = some (.ref hm)) (hj : j < 6) (hkd : KD j = nI kd) (hmm : MM j = nI m) (hkd7 : kd < 7) (hm10 : m < 10) (hmi2 : mi < 20000) : zSi l yX3_goes wsX3_goes ({ frames := 1, cells := 0, slots := 0, locals := 21 } : Room) D [(cI, .int), (cJ, .array .int)] [.ref h, .int (nI j)] [(h, .inr (3, fs)), (hk, .inl (cI, 6, .inl KD)), (hm, .inl (cI, 6, .inl MM))] (fun r => r = zgoes kd m mi) := by
  refine zSi.start (cc := cX3_goes) (maxL := 3) (rt := .int) (by first | decide | decide +kernel) rfl (Nat.le_of_ble_eq_true rfl) ?_
  intro pg ev s mt args below meth cd ls AA QQ ⟨hx, hb, hml, hr, hlocks, hown, hts, hK, hN, hZ, hP, hD, hA, hS, hl⟩ hret
  have hown : s.vm.findClass RX3 = some mt.cls := hown
  have hl : lv_has ls 3 [(0, .ref h), (1, .int (nI j))] := hl
  have hin3 : ∀ w ∈ wsX30, w ∈ wsX3_goes := fun w h => List.mem_cons_of_mem _ (List.mem_append_right _ (h))
  refine lv_aload_n hx hb dX3_goes_0 rfl (lv_at hl 0 rfl) ?_
  refine va_get (ci := 3) (v := .ref hm) (C := RX3) (T := TX3) (N := 16) hx hb hts hin3 hown hK hP 0 rfl rfl 6 (by decide) (hts (.fieldLink RX3 25 "UpAllRound$Stair" "numbers" "[I") (List.mem_of_getElem? (i := 1) rfl)) (fun _ h9 => h9) hf6 dX3_goes_1 ?_
  refine lv_iload_n hx hb dX3_goes_4 rfl (lv_at hl 1 rfl) ?_
  refine zald (t := j) hx hb hK hP 2 rfl (by omega) (by decide) dX3_goes_5 ?_
  refine zrw hmm ?_
  refine lv_istore_n (lv' := [(2, .int (nI m)), (0, .ref h), (1, .int (nI j))]) hx hb dX3_goes_6 rfl hl (by decide) rfl (fun ls hl => ?_)
  refine lv_aload_n hx hb dX3_goes_7 rfl (lv_at hl 1 rfl) ?_
  refine va_get (ci := 3) (v := .ref hk) (C := RX3) (T := TX3) (N := 16) hx hb hts hin3 hown hK hP 0 rfl rfl 5 (by decide) (hts (.fieldLink RX3 22 "UpAllRound$Stair" "kinds" "[I") (List.mem_of_getElem? (i := 2) rfl)) (fun _ h9 => h9) hf5 dX3_goes_8 ?_
  refine lv_iload_n hx hb dX3_goes_11 rfl (lv_at hl 2 rfl) ?_
  refine zald (t := j) hx hb hK hP 1 rfl (by omega) (by decide) dX3_goes_12 ?_
  refine zrw hkd ?_
  by_cases k13_1 : kd = 1
  · refine lv_tableIn (off := 39) (tgt := 52) hx hb dX3_goes_13 (by rw [k13_1]; decide) (by rw [k13_1]; decide) (by rw [k13_1]; rfl) (by decide) ?_
    refine lv_iconst (v := nI 1) hx hb dX3_goes_52 (by decide) ?_
    refine lv_iload_n hx hb dX3_goes_53 rfl (lv_at hl 0 rfl) ?_
    refine lv_iconst (v := nI 3) hx hb dX3_goes_54 (by decide) ?_
    refine lv_irem hx hb dX3_goes_55 (by decide) ?_
    refine zrw (pk_rem (by omega) (by omega) (by omega)) ?_
    refine lv_iadd hx hb dX3_goes_56 ?_
    refine zrw (nI_add _ _) ?_
    exact hret dX3_goes_57 rfl (by subst k13_1; exact (Int32.sub_zero _).symm)
  by_cases k13_2 : kd = 2
  · refine lv_tableIn (off := 45) (tgt := 58) hx hb dX3_goes_13 (by rw [k13_2]; decide) (by rw [k13_2]; decide) (by rw [k13_2]; rfl) (by decide) ?_
    refine lv_iconst (v := (-1)) hx hb dX3_goes_58 (by decide) ?_
    exact hret dX3_goes_59 rfl (by subst k13_2; rfl)
  by_cases k13_3 : kd = 3
  · refine lv_tableIn (off := 47) (tgt := 60) hx hb dX3_goes_13 (by rw [k13_3]; decide) (by rw [k13_3]; decide) (by rw [k13_3]; rfl) (by decide) ?_
    refine lv_aload_n hx hb dX3_goes_60 rfl (lv_at hl 1 rfl) ?_
    refine va_get (ci := 3) (v := .int (nI mi)) (C := RX3) (T := TX3) (N := 16) hx hb hts hin3 hown hK hP 0 rfl rfl 3 (by decide) (hts (.fieldLink RX3 15 "UpAllRound$Stair" "minute" "I") (List.mem_of_getElem? (i := 3) rfl)) (fun _ h9 => h9) hf3 dX3_goes_61 ?_
    refine lv_iload_n hx hb dX3_goes_64 rfl (lv_at hl 0 rfl) ?_
    refine lv_iconst (v := nI 1) hx hb dX3_goes_65 (by decide) ?_
    refine lv_iadd hx hb dX3_goes_66 ?_
    refine zrw (nI_add _ _) ?_
    refine zcsE (va_runSN (As := [.int (nI mi), .int (nI (m + 1))]) (rest := []) ⟨hx, hb, hml, hown, hts⟩ (c_X5_isMultiple l D cI cJ mi (m + 1) (by first | rfl | assumption | omega) (by first | rfl | assumption | omega) (by first | rfl | assumption | omega) s.heap.size) ⟨va_cnB 2 hts gX3_goes_X5_isMultiple_n86 rfl rfl rfl (hN (.methodLinkNest "UpAllRound$Stair" 86 yX5_isMultiple "UpAllRound") (List.mem_of_getElem? (i := 35) rfl)) (hts (.initialized RX5) (List.mem_of_getElem? (i := 5) rfl)) (by decide +kernel) ⟨Nat.le_of_ble_eq_true rfl, Nat.le_of_ble_eq_true rfl⟩, (hts (.static yX5_isMultiple) (List.mem_of_getElem? (i := 4) rfl)), trivial⟩ (zpS hK hN hZ hP hD hS hA [] rfl (by decide)) rfl rfl hl.1 rfl (lv_room (Nat.le_of_ble_eq_true rfl)) dX3_goes_67 ⟨Nat.zero_le _, Nat.zero_le _⟩) ?_
    refine lv_if_eq (tgt := 77) hx hb dX3_goes_70 (by decide) (fun c70_4 => ?_) (fun c70_4 => ?_)
    · have c70_4 := bI_0.mp c70_4
      refine lv_iconst (v := nI 1) hx hb dX3_goes_77 (by decide) ?_
      exact hret dX3_goes_78 rfl (by subst k13_3; show _ = nI (if mi % (m + 1) = 0 then 0 else 1) - nI (if mi % (m + 1) = 0 then 1 else 0); rw [if_neg c70_4, if_neg c70_4]; rfl)
    · have c70_4 := bI_n0.mp c70_4
      refine lv_iconst (v := (-1)) hx hb dX3_goes_73 (by decide) ?_
      refine lv_goto (tgt := 78) hx hb dX3_goes_74 (by decide) ?_
      exact hret dX3_goes_78 rfl (by subst k13_3; show _ = nI (if mi % (m + 1) = 0 then 0 else 1) - nI (if mi % (m + 1) = 0 then 1 else 0); rw [if_pos c70_4, if_pos c70_4]; rfl)
  by_cases k13_5 : kd = 4
  · refine lv_tableIn (off := 39) (tgt := 52) hx hb dX3_goes_13 (by rw [k13_5]; decide) (by rw [k13_5]; decide) (by rw [k13_5]; rfl) (by decide) ?_
    refine lv_iconst (v := nI 1) hx hb dX3_goes_52 (by decide) ?_
    refine lv_iload_n hx hb dX3_goes_53 rfl (lv_at hl 0 rfl) ?_
    refine lv_iconst (v := nI 3) hx hb dX3_goes_54 (by decide) ?_
    refine lv_irem hx hb dX3_goes_55 (by decide) ?_
    refine zrw (pk_rem (by omega) (by omega) (by omega)) ?_
    refine lv_iadd hx hb dX3_goes_56 ?_
    refine zrw (nI_add _ _) ?_
    exact hret dX3_goes_57 rfl (by subst k13_5; exact (Int32.sub_zero _).symm)
  by_cases k13_6 : kd = 5
  · refine lv_tableIn (off := 66) (tgt := 79) hx hb dX3_goes_13 (by rw [k13_6]; decide) (by rw [k13_6]; decide) (by rw [k13_6]; rfl) (by decide) ?_
    refine lv_bipush (v := (-2)) hx hb dX3_goes_79 (by decide) ?_
    refine lv_iload_n hx hb dX3_goes_81 rfl (lv_at hl 0 rfl) ?_
    refine lv_iconst (v := nI 3) hx hb dX3_goes_82 (by decide) ?_
    refine lv_irem hx hb dX3_goes_83 (by decide) ?_
    refine zrw (pk_rem (by omega) (by omega) (by omega)) ?_
    refine lv_isub hx hb dX3_goes_84 ?_
    exact hret dX3_goes_85 rfl (by subst k13_6; show _ = nI 0 - nI (2 + m % 3); rcases (show m % 3 = 0 ∨ m % 3 = 1 ∨ m % 3 = 2 by omega) with q | q | q <;> rw [q] <;> decide)
  by_cases k13_7 : kd = 6
  · refine lv_tableIn (off := 73) (tgt := 86) hx hb dX3_goes_13 (by rw [k13_7]; decide) (by rw [k13_7]; decide) (by rw [k13_7]; rfl) (by decide) ?_
    refine lv_aload_n hx hb dX3_goes_86 rfl (lv_at hl 1 rfl) ?_
    refine va_get (ci := 3) (v := .int (nI mi)) (C := RX3) (T := TX3) (N := 16) hx hb hts hin3 hown hK hP 0 rfl rfl 3 (by decide) (hts (.fieldLink RX3 15 "UpAllRound$Stair" "minute" "I") (List.mem_of_getElem? (i := 3) rfl)) (fun _ h9 => h9) hf3 dX3_goes_87 ?_
    refine lv_iconst (v := nI 4) hx hb dX3_goes_90 (by decide) ?_
    refine zcsE (va_runSN (As := [.int (nI mi), .int (nI 4)]) (rest := []) ⟨hx, hb, hml, hown, hts⟩ (c_X5_isMultiple l D cI cJ mi 4 (by first | rfl | assumption | omega) (by first | rfl | assumption | omega) (by first | rfl | assumption | omega) s.heap.size) ⟨va_cnB 2 hts gX3_goes_X5_isMultiple_n86 rfl rfl rfl (hN (.methodLinkNest "UpAllRound$Stair" 86 yX5_isMultiple "UpAllRound") (List.mem_of_getElem? (i := 35) rfl)) (hts (.initialized RX5) (List.mem_of_getElem? (i := 5) rfl)) (by decide +kernel) ⟨Nat.le_of_ble_eq_true rfl, Nat.le_of_ble_eq_true rfl⟩, (hts (.static yX5_isMultiple) (List.mem_of_getElem? (i := 4) rfl)), trivial⟩ (zpS hK hN hZ hP hD hS hA [] rfl (by decide)) rfl rfl hl.1 rfl (lv_room (Nat.le_of_ble_eq_true rfl)) dX3_goes_91 ⟨Nat.zero_le _, Nat.zero_le _⟩) ?_
    refine lv_if_eq (tgt := 103) hx hb dX3_goes_94 (by decide) (fun c94_8 => ?_) (fun c94_8 => ?_)
    · have c94_8 := bI_0.mp c94_8
      refine lv_iconst (v := nI 0) hx hb dX3_goes_103 (by decide) ?_
      exact hret dX3_goes_104 rfl (by subst k13_7; show _ = nI (if mi % 4 = 0 then m + 1 else 0) - nI 0; rw [if_neg c94_8]; exact (Int32.sub_zero _).symm)
    · have c94_8 := bI_n0.mp c94_8
      refine lv_iload_n hx hb dX3_goes_97 rfl (lv_at hl 0 rfl) ?_
      refine lv_iconst (v := nI 1) hx hb dX3_goes_98 (by decide) ?_
      refine lv_iadd hx hb dX3_goes_99 ?_
      refine zrw (nI_add _ _) ?_
      refine lv_goto (tgt := 104) hx hb dX3_goes_100 (by decide) ?_
      exact hret dX3_goes_104 rfl (by subst k13_7; show _ = nI (if mi % 4 = 0 then m + 1 else 0) - nI 0; rw [if_pos c94_8]; exact (Int32.sub_zero _).symm)
  refine lv_tableOut (tgt := 105) hx hb dX3_goes_13 (by rw [nI_toInt (by omega)]; omega) (by decide) ?_
  refine lv_iconst (v := nI 1) hx hb dX3_goes_105 (by decide) ?_
  exact hret dX3_goes_106 rfl (by (have e0 : kd = 0 := (by omega)); subst e0; exact (Int32.sub_zero _).symm)
set_option maxHeartbeats 4000000 in
set_option maxRecDepth 100000 in
theorem c_X3_countedOf (l : Launch) (D : va_G) (cI cJ : ClassId) (h : Nat) (hw : Nat) (hc : Nat) (hst : Nat) (fs : List Value) (C : Nat → Int32) (ST : Nat → Int32) (len : Nat) (tk : zTk) (a1 : Int32) (a2 : Int32) (a3 : Int32) (hf9 : fs[9]? = some (.ref hw)) (hcd : zCD C len tk) (hwf : zWF len tk) : zMi l yX3_countedOf wsX3_countedOf ({ frames := 2, cells := 0, slots := 0, locals := 48 } : Room) D [(cI, .int), (cJ, .array .int)] [.ref h, .int a1, .int a2, .int a3] [(h, .inr (3, fs)), (hw, .inr (0, [.ref hc, .int (nI len), .ref hst])), (hc, .inl (cI, 60, .inl C)), (hst, .inl (cI, 60, .inl ST))] (fun r w => ∃ ST9 : Nat → Int32, r = zcnt len tk a1 a2 a3 ∧ w = [(h, .inr (3, fs)), (hw, .inr (0, [.ref hc, .int (nI len), .ref hst])), (hc, .inl (cI, 60, .inl C)), (hst, .inl (cI, 60, .inl ST9))]) := by
  refine zMi.start (cc := cX3_countedOf) (maxL := 4) (rt := .int) (by first | decide | decide +kernel) rfl (Nat.le_of_ble_eq_true rfl) ?_
  intro pg ev s mt args below meth cd ls AA QQ ⟨hx, hb, hml, hr, hlocks, hown, hts, hK, hN, hZ, hP, hD, hA, hS, hl⟩ hret
  have hown : s.vm.findClass RX3 = some mt.cls := hown
  have hl : lv_has ls 4 [(0, .ref h), (1, .int a1), (2, .int a2), (3, .int a3)] := hl
  have hin0 : ∀ w ∈ wsX00, w ∈ wsX3_countedOf := fun w h => List.mem_cons_of_mem _ (List.mem_append_right _ (h))
  have hin3 : ∀ w ∈ wsX30, w ∈ wsX3_countedOf := fun w h => List.mem_cons_of_mem _ (List.mem_append_left _ (List.mem_append_right _ (h)))
  refine lv_aload_n hx hb dX3_countedOf_0 rfl (lv_at hl 0 rfl) ?_
  refine va_get (ci := 3) (v := .ref hw) (C := RX3) (T := TX3) (N := 16) hx hb hts hin3 hown hK hP 0 rfl rfl 9 (by decide) (hts (.fieldLink RX3 37 "UpAllRound$Stair" "counted" "LUpAllRound$Law;") (List.mem_of_getElem? (i := 1) rfl)) (fun _ h9 => h9) hf9 dX3_countedOf_1 ?_
  refine zcsE (va_runVN (As := []) (rest := []) ⟨hx, hb, hml, hown, hts⟩ (c_X0_stands l D cI cJ hw [.ref hc, .int (nI len), .ref hst] len (by first | rfl | assumption | omega) hwf.1 s.heap.size) ⟨va_cnB 0 hts gX3_countedOf_X0_stands_n75 rfl rfl rfl (hN (.methodLinkNest "UpAllRound$Stair" 75 yX0_stands "UpAllRound") (List.mem_of_getElem? (i := 44) rfl)) (hts (.initialized RX0) (List.mem_of_getElem? (i := 3) rfl)) (by decide +kernel) ⟨Nat.le_of_ble_eq_true rfl, Nat.le_of_ble_eq_true rfl⟩, (hts (.instanceMethod yX0_stands) (List.mem_of_getElem? (i := 2) rfl)), (hts (.selects RX0 yX0_stands yX0_stands) (List.mem_of_getElem? (i := 4) rfl))⟩ (zpV hK hN hZ hP hD hS hA [1] rfl (by decide) 1 rfl rfl rfl) rfl rfl hl.1 rfl (lv_room (Nat.le_of_ble_eq_true rfl)) dX3_countedOf_4 ⟨Nat.zero_le _, Nat.zero_le _⟩) ?_
  refine lv_if_eq (tgt := 23) hx hb dX3_countedOf_7 (by decide) (fun c7_1 => ?_) (fun c7_1 => ?_)
  · have c7_1 := bI_0.mp c7_1
    refine lv_iload_n hx hb dX3_countedOf_23 rfl (lv_at hl 1 rfl) ?_
    refine lv_bipush (v := (-99)) hx hb dX3_countedOf_24 (by decide) ?_
    refine lv_bipush (v := nI 99) hx hb dX3_countedOf_26 (by decide) ?_
    refine zcsE (va_runSN (As := [.int a1, .int ((-99)), .int (nI 99)]) (rest := []) ⟨hx, hb, hml, hown, hts⟩ (c_X5_held l D cI cJ a1 ((-99)) (nI 99) (by decide) s.heap.size) ⟨va_cnB 3 hts gX3_countedOf_X5_held_n83 rfl rfl rfl (hN (.methodLinkNest "UpAllRound$Stair" 83 yX5_held "UpAllRound") (List.mem_of_getElem? (i := 46) rfl)) (hts (.initialized RX5) (List.mem_of_getElem? (i := 16) rfl)) (by decide +kernel) ⟨Nat.le_of_ble_eq_true rfl, Nat.le_of_ble_eq_true rfl⟩, (hts (.static yX5_held) (List.mem_of_getElem? (i := 15) rfl)), trivial⟩ (zpS hK hN hZ hP hD hS hA [] rfl (by decide)) rfl rfl hl.1 rfl (lv_room (Nat.le_of_ble_eq_true rfl)) dX3_countedOf_28 ⟨Nat.zero_le _, Nat.zero_le _⟩) ?_
    exact hret hP hD hS dX3_countedOf_31 rfl (by refine ⟨_, ?_, rfl⟩; show zheld _ _ _ = zheld (if 0 < len then zval tk (znm a1 a2 a3) len else a1) _ _; rw [if_neg c7_1]; rfl)
  · have c7_1 := bI_n0.mp c7_1
    refine lv_aload_n hx hb dX3_countedOf_10 rfl (lv_at hl 0 rfl) ?_
    refine va_get (ci := 3) (v := .ref hw) (C := RX3) (T := TX3) (N := 16) hx hb hts hin3 hown hK hP 0 rfl rfl 9 (by decide) (hts (.fieldLink RX3 37 "UpAllRound$Stair" "counted" "LUpAllRound$Law;") (List.mem_of_getElem? (i := 1) rfl)) (fun _ h9 => h9) hf9 dX3_countedOf_11 ?_
    refine lv_iload_n hx hb dX3_countedOf_14 rfl (lv_at hl 1 rfl) ?_
    refine lv_iload_n hx hb dX3_countedOf_15 rfl (lv_at hl 2 rfl) ?_
    refine lv_iload_n hx hb dX3_countedOf_16 rfl (lv_at hl 3 rfl) ?_
    refine zci (wr := [(h, .inr (3, fs))]) (va_runVN (As := [.int a1, .int a2, .int a3]) (rest := []) ⟨hx, hb, hml, hown, hts⟩ (c_X0_work l D cI cJ hw hc hst len C ST tk a1 a2 a3 (by first | rfl | assumption | omega) (by first | rfl | assumption | omega) (by first | rfl | assumption | omega) s.heap.size) ⟨va_cnB 3 hts gX3_countedOf_X0_work_n79 rfl rfl rfl (hN (.methodLinkNest "UpAllRound$Stair" 79 yX0_work "UpAllRound") (List.mem_of_getElem? (i := 45) rfl)) (hts (.initialized RX0) (List.mem_of_getElem? (i := 3) rfl)) (by decide +kernel) ⟨Nat.le_of_ble_eq_true rfl, Nat.le_of_ble_eq_true rfl⟩, (hts (.instanceMethod yX0_work) (List.mem_of_getElem? (i := 7) rfl)), (hts (.selects RX0 yX0_work yX0_work) (List.mem_of_getElem? (i := 8) rfl))⟩ (zpV hK hN hZ hP hD hS hA [1, 2, 3] rfl (by decide) 1 rfl rfl rfl) rfl rfl hl.1 rfl (lv_room (Nat.le_of_ble_eq_true rfl)) dX3_countedOf_17 ⟨Nat.zero_le _, Nat.zero_le _⟩) hP hD hS hA [1, 2, 3] [0] rfl rfl (by decide) (by decide) (fun r_4 w_3 H locs h_2 hP hD hS => ?_)
    obtain ⟨rfl, rfl⟩ := h_2
    have hP : va_P D vwCl [(h, .inr (3, fs)), (hw, .inr (0, [.ref hc, .int (nI len), .ref hst])), (hc, .inl (cI, 60, .inl C)), (hst, .inl (cI, 60, .inl (zrn tk (znm a1 a2 a3) ST len)))] H := hP
    have hD : va_D AA [(h, .inr (3, fs)), (hw, .inr (0, [.ref hc, .int (nI len), .ref hst])), (hc, .inl (cI, 60, .inl C)), (hst, .inl (cI, 60, .inl (zrn tk (znm a1 a2 a3) ST len)))] := hD
    refine lv_goto (tgt := 24) hx hb dX3_countedOf_20 (by decide) ?_
    refine lv_bipush (v := (-99)) hx hb dX3_countedOf_24 (by decide) ?_
    refine lv_bipush (v := nI 99) hx hb dX3_countedOf_26 (by decide) ?_
    refine zcsE (va_runSN (As := [.int (zval tk (znm a1 a2 a3) len), .int ((-99)), .int (nI 99)]) (rest := []) ⟨hx, hb, hml, hown, hts⟩ (c_X5_held l D cI cJ (zval tk (znm a1 a2 a3) len) ((-99)) (nI 99) (by decide) H.size) ⟨va_cnB 3 hts gX3_countedOf_X5_held_n83 rfl rfl rfl (hN (.methodLinkNest "UpAllRound$Stair" 83 yX5_held "UpAllRound") (List.mem_of_getElem? (i := 46) rfl)) (hts (.initialized RX5) (List.mem_of_getElem? (i := 16) rfl)) (by decide +kernel) ⟨Nat.le_of_ble_eq_true rfl, Nat.le_of_ble_eq_true rfl⟩, (hts (.static yX5_held) (List.mem_of_getElem? (i := 15) rfl)), trivial⟩ (zpS hK hN hZ hP hD hS hA [] rfl (by decide)) rfl rfl hl.1 rfl (lv_room (Nat.le_of_ble_eq_true rfl)) dX3_countedOf_28 ⟨Nat.zero_le _, Nat.zero_le _⟩) ?_
    exact hret hP hD hS dX3_countedOf_31 rfl (by refine ⟨_, ?_, rfl⟩; show zheld _ _ _ = zheld (if 0 < len then zval tk (znm a1 a2 a3) len else a1) _ _; rw [if_pos c7_1]; rfl)
set_option maxHeartbeats 4000000 in
set_option maxRecDepth 100000 in
theorem c_X3_worthOf (l : Launch) (D : va_G) (cI cJ : ClassId) (h : Nat) (hw : Nat) (hc : Nat) (hst : Nat) (fs : List Value) (C : Nat → Int32) (ST : Nat → Int32) (len : Nat) (tk : zTk) (a1 : Int32) (a2 : Int32) (a3 : Int32) (hf10 : fs[10]? = some (.ref hw)) (hcd : zCD C len tk) (hwf : zWF len tk) : zMi l yX3_worthOf wsX3_worthOf ({ frames := 2, cells := 0, slots := 0, locals := 48 } : Room) D [(cI, .int), (cJ, .array .int)] [.ref h, .int a1, .int a2, .int a3] [(h, .inr (3, fs)), (hw, .inr (0, [.ref hc, .int (nI len), .ref hst])), (hc, .inl (cI, 60, .inl C)), (hst, .inl (cI, 60, .inl ST))] (fun r w => ∃ ST9 : Nat → Int32, r = zwor len tk a1 a2 a3 ∧ w = [(h, .inr (3, fs)), (hw, .inr (0, [.ref hc, .int (nI len), .ref hst])), (hc, .inl (cI, 60, .inl C)), (hst, .inl (cI, 60, .inl ST9))]) := by
  refine zMi.start (cc := cX3_worthOf) (maxL := 4) (rt := .int) (by first | decide | decide +kernel) rfl (Nat.le_of_ble_eq_true rfl) ?_
  intro pg ev s mt args below meth cd ls AA QQ ⟨hx, hb, hml, hr, hlocks, hown, hts, hK, hN, hZ, hP, hD, hA, hS, hl⟩ hret
  have hown : s.vm.findClass RX3 = some mt.cls := hown
  have hl : lv_has ls 4 [(0, .ref h), (1, .int a1), (2, .int a2), (3, .int a3)] := hl
  have hin0 : ∀ w ∈ wsX00, w ∈ wsX3_worthOf := fun w h => List.mem_cons_of_mem _ (List.mem_append_right _ (h))
  have hin3 : ∀ w ∈ wsX30, w ∈ wsX3_worthOf := fun w h => List.mem_cons_of_mem _ (List.mem_append_left _ (List.mem_append_right _ (h)))
  refine lv_aload_n hx hb dX3_worthOf_0 rfl (lv_at hl 0 rfl) ?_
  refine va_get (ci := 3) (v := .ref hw) (C := RX3) (T := TX3) (N := 16) hx hb hts hin3 hown hK hP 0 rfl rfl 10 (by decide) (hts (.fieldLink RX3 41 "UpAllRound$Stair" "worth" "LUpAllRound$Law;") (List.mem_of_getElem? (i := 1) rfl)) (fun _ h9 => h9) hf10 dX3_worthOf_1 ?_
  refine zcsE (va_runVN (As := []) (rest := []) ⟨hx, hb, hml, hown, hts⟩ (c_X0_stands l D cI cJ hw [.ref hc, .int (nI len), .ref hst] len (by first | rfl | assumption | omega) hwf.1 s.heap.size) ⟨va_cnB 0 hts gX3_worthOf_X0_stands_n75 rfl rfl rfl (hN (.methodLinkNest "UpAllRound$Stair" 75 yX0_stands "UpAllRound") (List.mem_of_getElem? (i := 44) rfl)) (hts (.initialized RX0) (List.mem_of_getElem? (i := 3) rfl)) (by decide +kernel) ⟨Nat.le_of_ble_eq_true rfl, Nat.le_of_ble_eq_true rfl⟩, (hts (.instanceMethod yX0_stands) (List.mem_of_getElem? (i := 2) rfl)), (hts (.selects RX0 yX0_stands yX0_stands) (List.mem_of_getElem? (i := 4) rfl))⟩ (zpV hK hN hZ hP hD hS hA [1] rfl (by decide) 1 rfl rfl rfl) rfl rfl hl.1 rfl (lv_room (Nat.le_of_ble_eq_true rfl)) dX3_worthOf_4 ⟨Nat.zero_le _, Nat.zero_le _⟩) ?_
  refine lv_if_eq (tgt := 23) hx hb dX3_worthOf_7 (by decide) (fun c7_1 => ?_) (fun c7_1 => ?_)
  · have c7_1 := bI_0.mp c7_1
    refine lv_iload_n hx hb dX3_worthOf_23 rfl (lv_at hl 2 rfl) ?_
    refine lv_iconst (v := nI 0) hx hb dX3_worthOf_24 (by decide) ?_
    refine lv_sipush (v := nI 999) hx hb dX3_worthOf_25 (by decide) ?_
    refine zcsE (va_runSN (As := [.int a2, .int (nI 0), .int (nI 999)]) (rest := []) ⟨hx, hb, hml, hown, hts⟩ (c_X5_held l D cI cJ a2 (nI 0) (nI 999) (by decide) s.heap.size) ⟨va_cnB 3 hts gX3_worthOf_X5_held_n83 rfl rfl rfl (hN (.methodLinkNest "UpAllRound$Stair" 83 yX5_held "UpAllRound") (List.mem_of_getElem? (i := 46) rfl)) (hts (.initialized RX5) (List.mem_of_getElem? (i := 16) rfl)) (by decide +kernel) ⟨Nat.le_of_ble_eq_true rfl, Nat.le_of_ble_eq_true rfl⟩, (hts (.static yX5_held) (List.mem_of_getElem? (i := 15) rfl)), trivial⟩ (zpS hK hN hZ hP hD hS hA [] rfl (by decide)) rfl rfl hl.1 rfl (lv_room (Nat.le_of_ble_eq_true rfl)) dX3_worthOf_28 ⟨Nat.zero_le _, Nat.zero_le _⟩) ?_
    exact hret hP hD hS dX3_worthOf_31 rfl (by refine ⟨_, ?_, rfl⟩; show zheld _ _ _ = zheld (if 0 < len then zval tk (znm a1 a2 a3) len else a2) _ _; rw [if_neg c7_1]; rfl)
  · have c7_1 := bI_n0.mp c7_1
    refine lv_aload_n hx hb dX3_worthOf_10 rfl (lv_at hl 0 rfl) ?_
    refine va_get (ci := 3) (v := .ref hw) (C := RX3) (T := TX3) (N := 16) hx hb hts hin3 hown hK hP 0 rfl rfl 10 (by decide) (hts (.fieldLink RX3 41 "UpAllRound$Stair" "worth" "LUpAllRound$Law;") (List.mem_of_getElem? (i := 1) rfl)) (fun _ h9 => h9) hf10 dX3_worthOf_11 ?_
    refine lv_iload_n hx hb dX3_worthOf_14 rfl (lv_at hl 1 rfl) ?_
    refine lv_iload_n hx hb dX3_worthOf_15 rfl (lv_at hl 2 rfl) ?_
    refine lv_iload_n hx hb dX3_worthOf_16 rfl (lv_at hl 3 rfl) ?_
    refine zci (wr := [(h, .inr (3, fs))]) (va_runVN (As := [.int a1, .int a2, .int a3]) (rest := []) ⟨hx, hb, hml, hown, hts⟩ (c_X0_work l D cI cJ hw hc hst len C ST tk a1 a2 a3 (by first | rfl | assumption | omega) (by first | rfl | assumption | omega) (by first | rfl | assumption | omega) s.heap.size) ⟨va_cnB 3 hts gX3_worthOf_X0_work_n79 rfl rfl rfl (hN (.methodLinkNest "UpAllRound$Stair" 79 yX0_work "UpAllRound") (List.mem_of_getElem? (i := 45) rfl)) (hts (.initialized RX0) (List.mem_of_getElem? (i := 3) rfl)) (by decide +kernel) ⟨Nat.le_of_ble_eq_true rfl, Nat.le_of_ble_eq_true rfl⟩, (hts (.instanceMethod yX0_work) (List.mem_of_getElem? (i := 7) rfl)), (hts (.selects RX0 yX0_work yX0_work) (List.mem_of_getElem? (i := 8) rfl))⟩ (zpV hK hN hZ hP hD hS hA [1, 2, 3] rfl (by decide) 1 rfl rfl rfl) rfl rfl hl.1 rfl (lv_room (Nat.le_of_ble_eq_true rfl)) dX3_worthOf_17 ⟨Nat.zero_le _, Nat.zero_le _⟩) hP hD hS hA [1, 2, 3] [0] rfl rfl (by decide) (by decide) (fun r_4 w_3 H locs h_2 hP hD hS => ?_)
    obtain ⟨rfl, rfl⟩ := h_2
    have hP : va_P D vwCl [(h, .inr (3, fs)), (hw, .inr (0, [.ref hc, .int (nI len), .ref hst])), (hc, .inl (cI, 60, .inl C)), (hst, .inl (cI, 60, .inl (zrn tk (znm a1 a2 a3) ST len)))] H := hP
    have hD : va_D AA [(h, .inr (3, fs)), (hw, .inr (0, [.ref hc, .int (nI len), .ref hst])), (hc, .inl (cI, 60, .inl C)), (hst, .inl (cI, 60, .inl (zrn tk (znm a1 a2 a3) ST len)))] := hD
    refine lv_goto (tgt := 24) hx hb dX3_worthOf_20 (by decide) ?_
    refine lv_iconst (v := nI 0) hx hb dX3_worthOf_24 (by decide) ?_
    refine lv_sipush (v := nI 999) hx hb dX3_worthOf_25 (by decide) ?_
    refine zcsE (va_runSN (As := [.int (zval tk (znm a1 a2 a3) len), .int (nI 0), .int (nI 999)]) (rest := []) ⟨hx, hb, hml, hown, hts⟩ (c_X5_held l D cI cJ (zval tk (znm a1 a2 a3) len) (nI 0) (nI 999) (by decide) H.size) ⟨va_cnB 3 hts gX3_worthOf_X5_held_n83 rfl rfl rfl (hN (.methodLinkNest "UpAllRound$Stair" 83 yX5_held "UpAllRound") (List.mem_of_getElem? (i := 46) rfl)) (hts (.initialized RX5) (List.mem_of_getElem? (i := 16) rfl)) (by decide +kernel) ⟨Nat.le_of_ble_eq_true rfl, Nat.le_of_ble_eq_true rfl⟩, (hts (.static yX5_held) (List.mem_of_getElem? (i := 15) rfl)), trivial⟩ (zpS hK hN hZ hP hD hS hA [] rfl (by decide)) rfl rfl hl.1 rfl (lv_room (Nat.le_of_ble_eq_true rfl)) dX3_worthOf_28 ⟨Nat.zero_le _, Nat.zero_le _⟩) ?_
    exact hret hP hD hS dX3_worthOf_31 rfl (by refine ⟨_, ?_, rfl⟩; show zheld _ _ _ = zheld (if 0 < len then zval tk (znm a1 a2 a3) len else a2) _ _; rw [if_pos c7_1]; rfl)
