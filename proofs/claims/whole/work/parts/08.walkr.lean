def zfmR (a n : Nat) : Int32 := (nI a - nI 4) - (nI a - nI 4) / nI n * nI n
def zfmX (a n : Nat) : Bool := decide (4 ≤ n → (nI 0 ≤ ((nI a - nI 4) ^^^ nI n) ∨ zfmR a n = nI 0) → zfmR a n = nI ((a + (n - 4)) % n))
def zfmY (a n : Nat) : Bool := decide (4 ≤ n → (nI 0 ≤ ((nI a - nI 4) ^^^ nI n) ∨ zfmR a n = nI 0) ∨ zfmR a n + nI n = nI ((a + (n - 4)) % n))
theorem zfm_tab : ((List.range 28).all fun a => (List.range 15).all fun n => zfmX a n && zfmY a n) = true := by decide +kernel
theorem zfm_x {a n : Nat} (ha : a < 28) (hn : n < 15) (h4 : 4 ≤ n) : ((nI 0 ≤ ((nI a - nI 4) ^^^ nI n) ∨ zfmR a n = nI 0) → zfmR a n = nI ((a + (n - 4)) % n)) ∧ ((nI 0 ≤ ((nI a - nI 4) ^^^ nI n) ∨ zfmR a n = nI 0) ∨ zfmR a n + nI n = nI ((a + (n - 4)) % n)) := by
  have h := List.all_eq_true.mp (List.all_eq_true.mp zfm_tab a (List.mem_range.mpr ha)) n (List.mem_range.mpr hn)
  rw [Bool.and_eq_true] at h
  exact ⟨of_decide_eq_true h.1 h4, of_decide_eq_true h.2 h4⟩
theorem zcase3 {u d : Nat} (h : u = 0 ∨ d = 0) : (u = 0 ∧ d = 0) ∨ (∃ u9, u = u9 + 1 ∧ d = 0) ∨ (∃ d9, u = 0 ∧ d = d9 + 1) := by
  rcases u with _ | u9
  · rcases d with _ | d9
    · exact Or.inl ⟨rfl, rfl⟩
    · exact Or.inr (Or.inr ⟨d9, rfl, rfl⟩)
  · exact Or.inr (Or.inl ⟨u9, rfl, by omega⟩)
/-- what a walk stands on: steps, the text that counts, rises, the step that is none, kinds, numbers, places, heights, the minute -/
abbrev zDt : Type := Nat × Nat × zTk × (Nat → Int32) × Int32 × (Nat → Int32) × (Nat → Int32) × (Nat → Int32) × (Nat → Int32) × Nat
def zkN (d : zDt) (c : Nat) : Nat := (d.2.2.2.2.2.1 c).toNatClampNeg
def zmN (d : zDt) (c : Nat) : Nat := (d.2.2.2.2.2.2.1 c).toNatClampNeg
def zaN (d : zDt) (c : Nat) : Nat := (d.2.2.2.2.2.2.2.1 c).toNatClampNeg
def zhN (d : zDt) (c : Nat) : Int32 := d.2.2.2.2.2.2.2.2.1 c
def zmi (d : zDt) : Nat := d.2.2.2.2.2.2.2.2.2
/-- climber c behind q minutes -/
def zW (d : zDt) (c q : Nat) : Nat × Int32 := zwk d.1 d.2.1 d.2.2.1 d.2.2.2.1 d.2.2.2.2.1 (zkN d c) (zmN d c) (zmi d) (zaN d c, zhN d c) q
theorem zW_s (d : zDt) (c q : Nat) : zW d c (q + 1) = zg1 d.1 d.2.1 d.2.2.1 d.2.2.2.1 d.2.2.2.2.1 (zkN d c) (zmN d c) (zmi d + q) (zW d c q) := rfl
def zCl (d : zDt) (c : Nat) : Prop := d.2.2.2.2.2.1 c = nI (zkN d c) ∧ zkN d c < 7 ∧ d.2.2.2.2.2.2.1 c = nI (zmN d c) ∧ zmN d c < 10 ∧ d.2.2.2.2.2.2.2.1 c = nI (zaN d c) ∧ zaN d c < d.1
def zOK (d : zDt) (k : Nat) : Prop := 4 ≤ d.1 ∧ d.1 ≤ 14 ∧ zWF d.2.1 d.2.2.1 ∧ k ≤ 6 ∧ zmi d ≤ 9999 ∧ ∀ c, c < k → zCl d c
theorem zW_lt {d : zDt} {k c : Nat} (h : zOK d k) (hc : c < k) (q : Nat) : (zW d c q).1 < d.1 := zwk_lt (Nat.lt_of_lt_of_le (by decide) h.1) (h.2.2.2.2.2 c hc).2.2.2.2.2 q
theorem zW_0 (d : zDt) (c : Nat) : zW d c 0 = (zaN d c, zhN d c) := rfl
/-- the reference's row of numbers -/
def zDS (S : Nat → Int32) (n len : Nat) (tk : zTk) (mi : Nat) : zDt := (n, len, tk, fun i => S (32 + i), S 2, fun c => S (8 + 4 * c + 0), fun c => S (8 + 4 * c + 1), fun c => S (8 + 4 * c + 2), fun c => S (8 + 4 * c + 3), mi)
def zsc (S : Nat → Int32) (j : Nat) (p : Nat × Int32) : Nat → Int32 := upd (upd S (8 + 4 * j + 3) p.2) (8 + 4 * j + 2) (nI p.1)
theorem zsc_o {S : Nat → Int32} {j i : Nat} {p : Nat × Int32} (h1 : i ≠ 8 + 4 * j + 2) (h2 : i ≠ 8 + 4 * j + 3) : zsc S j p i = S i := by
  unfold zsc upd
  rw [if_neg h1, if_neg h2]
theorem zsc_2 {S : Nat → Int32} {j : Nat} {p : Nat × Int32} : zsc S j p (8 + 4 * j + 2) = nI p.1 := by
  unfold zsc upd
  rw [if_pos rfl]
theorem zsc_3 {S : Nat → Int32} {j : Nat} {p : Nat × Int32} : zsc S j p (8 + 4 * j + 3) = p.2 := by
  unfold zsc upd
  rw [if_neg (by omega), if_pos rfl]
theorem zsc_s {S : Nat → Int32} {j a : Nat} {p : Nat × Int32} {x : Int32} : upd (upd (zsc S j p) (8 + 4 * j + 3) x) (8 + 4 * j + 2) (nI a) = zsc S j (a, x) := by
  funext i
  unfold zsc upd
  by_cases h1 : i = 8 + 4 * j + 2
  · rw [if_pos h1, if_pos h1]
  · rw [if_neg h1, if_neg h1]
    by_cases h2 : i = 8 + 4 * j + 3
    · simp only [if_neg h1, if_pos h2]
    · simp only [if_neg h1, if_neg h2]
theorem zsc_id {S : Nat → Int32} {j a : Nat} (h : S (8 + 4 * j + 2) = nI a) : zsc S j (a, S (8 + 4 * j + 3)) = S := by
  funext i
  unfold zsc upd
  by_cases h1 : i = 8 + 4 * j + 2
  · rw [if_pos h1, h1, h]
  · rw [if_neg h1]
    by_cases h2 : i = 8 + 4 * j + 3
    · rw [if_pos h2, h2]
    · rw [if_neg h2]
theorem zTX_sc {S : Nat → Int32} {j u len : Nat} {p : Nat × Int32} {tk : zTk} (hj : j < 6) (h : zTX S u len tk) : zTX (zsc S j p) u len tk := by
  refine ⟨by rw [zsc_o (by omega) (by omega)]; exact h.1, fun i hi => ⟨by rw [zsc_o (by omega) (by omega)]; exact (h.2 i hi).1, by rw [zsc_o (by omega) (by omega)]; exact (h.2 i hi).2⟩⟩
theorem zT_sc {S : Nat → Int32} {j len mi kd : Nat} {p : Nat × Int32} {tk : zTk} (hj : j < 6) : zT len tk (fun i => zsc S j p (32 + i)) (zsc S j p 2) mi kd = zT len tk (fun i => S (32 + i)) (S 2) mi kd := by
  have e : (fun i => zsc S j p (32 + i)) = fun i => S (32 + i) := funext fun i => zsc_o (by omega) (by omega)
  rw [e, zsc_o (by omega) (by omega)]
theorem zneg_s (d : Nat) : -nI (d + 1) + nI 1 = nI 0 - nI d := by
  have e : nI (d + 1) = nI d + nI 1 := (nI_add d 1).symm
  rw [e, Int32.neg_add, Int32.sub_add_cancel]
  exact (Int32.zero_sub _).symm
/-- the reference's row behind q minutes, climbers below j one more; k of them -/
def zsm (S : Nat → Int32) (d : zDt) (k j q : Nat) : Nat → Int32 := fun i => if i = 0 then nI (zmi d + q) else if 8 ≤ i ∧ i < 8 + 4 * k ∧ i % 4 = 2 then nI (zW d ((i - 8) / 4) (if (i - 8) / 4 < j then q + 1 else q)).1 else if 8 ≤ i ∧ i < 8 + 4 * k ∧ i % 4 = 3 then (zW d ((i - 8) / 4) (if (i - 8) / 4 < j then q + 1 else q)).2 else S i
theorem zsm_o {S : Nat → Int32} {d : zDt} {k j q i : Nat} (h0 : i ≠ 0) (h : i < 8 ∨ 8 + 4 * k ≤ i ∨ i % 4 ≤ 1) : zsm S d k j q i = S i := by
  unfold zsm
  rw [if_neg h0, if_neg (by omega), if_neg (by omega)]
theorem zsm_0 {S : Nat → Int32} {d : zDt} {k j q : Nat} : zsm S d k j q 0 = nI (zmi d + q) := if_pos rfl
theorem zsm_2 {S : Nat → Int32} {d : zDt} {k j q c : Nat} (hc : c < k) : zsm S d k j q (8 + 4 * c + 2) = nI (zW d c (if c < j then q + 1 else q)).1 := by
  unfold zsm
  rw [if_neg (by omega), if_pos ⟨by omega, by omega, by omega⟩, show (8 + 4 * c + 2 - 8) / 4 = c by omega]
theorem zsm_3 {S : Nat → Int32} {d : zDt} {k j q c : Nat} (hc : c < k) : zsm S d k j q (8 + 4 * c + 3) = (zW d c (if c < j then q + 1 else q)).2 := by
  unfold zsm
  rw [if_neg (by omega), if_neg (by omega), if_pos ⟨by omega, by omega, by omega⟩, show (8 + 4 * c + 3 - 8) / 4 = c by omega]
theorem zsm_s {S : Nat → Int32} {d : zDt} {k j q : Nat} (hj : j < k) : zsc (zsm S d k j q) j (zW d j (q + 1)) = zsm S d k (j + 1) q := by
  funext i
  by_cases h1 : i = 8 + 4 * j + 2
  · subst h1; rw [zsc_2, zsm_2 hj, if_pos (by omega)]
  · by_cases h2 : i = 8 + 4 * j + 3
    · subst h2; rw [zsc_3, zsm_3 hj, if_pos (by omega)]
    · rw [zsc_o h1 h2]
      unfold zsm
      by_cases h0 : i = 0
      · rw [if_pos h0, if_pos h0]
      · rw [if_neg h0, if_neg h0]
        have hq : 8 ≤ i → i % 4 = 2 ∨ i % 4 = 3 → ((i - 8) / 4 < j ↔ (i - 8) / 4 < j + 1) := by omega
        by_cases a : 8 ≤ i ∧ i < 8 + 4 * k ∧ i % 4 = 2
        · rw [if_pos a, if_pos a]; simp only [hq a.1 (Or.inl a.2.2)]
        · rw [if_neg a, if_neg a]
          by_cases b : 8 ≤ i ∧ i < 8 + 4 * k ∧ i % 4 = 3
          · rw [if_pos b, if_pos b]; simp only [hq b.1 (Or.inr b.2.2)]
          · rw [if_neg b, if_neg b]
theorem zsm_e {S : Nat → Int32} {d : zDt} {k q : Nat} : upd (zsm S d k k q) 0 (nI (zmi d + q + 1)) = zsm S d k 0 (q + 1) := by
  funext i
  unfold upd
  by_cases h0 : i = 0
  · rw [if_pos h0, h0, zsm_0, Nat.add_assoc]
  · rw [if_neg h0]
    unfold zsm
    rw [if_neg h0, if_neg h0]
    by_cases a : 8 ≤ i ∧ i < 8 + 4 * k ∧ i % 4 = 2
    · rw [if_pos a, if_pos a, if_pos (by omega), if_neg (by omega)]
    · rw [if_neg a, if_neg a]
      by_cases b : 8 ≤ i ∧ i < 8 + 4 * k ∧ i % 4 = 3
      · rw [if_pos b, if_pos b, if_pos (by omega), if_neg (by omega)]
      · rw [if_neg b, if_neg b]
theorem zsm_start {S : Nat → Int32} {n len mi k : Nat} {tk : zTk} (hmi : S 0 = nI mi) (h : zOK (zDS S n len tk mi) k) : zsm S (zDS S n len tk mi) k 0 0 = S := by
  funext i
  unfold zsm
  by_cases h0 : i = 0
  · rw [if_pos h0, h0, hmi]; rfl
  · rw [if_neg h0]
    by_cases a : 8 ≤ i ∧ i < 8 + 4 * k ∧ i % 4 = 2
    · rw [if_pos a, if_neg (by omega), zW_0]
      have := (h.2.2.2.2.2 ((i - 8) / 4) (by omega)).2.2.2.2.1
      rw [← this]
      show S (8 + 4 * ((i - 8) / 4) + 2) = S i
      rw [show 8 + 4 * ((i - 8) / 4) + 2 = i by omega]
    · rw [if_neg a]
      by_cases b : 8 ≤ i ∧ i < 8 + 4 * k ∧ i % 4 = 3
      · rw [if_pos b, if_neg (by omega), zW_0]
        show S (8 + 4 * ((i - 8) / 4) + 3) = S i
        rw [show 8 + 4 * ((i - 8) / 4) + 3 = i by omega]
      · rw [if_neg b]
theorem zTX_sm {S : Nat → Int32} {d : zDt} {k j q u len : Nat} {tk : zTk} (hk : k ≤ 6) (h : zTX S u len tk) : zTX (zsm S d k j q) u len tk := by
  refine ⟨by rw [zsm_o (by omega) (by omega)]; exact h.1, fun i hi => ⟨by rw [zsm_o (by omega) (by omega)]; exact (h.2 i hi).1, by rw [zsm_o (by omega) (by omega)]; exact (h.2 i hi).2⟩⟩
theorem zT_sm {S : Nat → Int32} {d : zDt} {k j q len mi kd : Nat} {tk : zTk} (hk : k ≤ 6) : zT len tk (fun i => zsm S d k j q (32 + i)) (zsm S d k j q 2) mi kd = zT len tk (fun i => S (32 + i)) (S 2) mi kd := by
  have e : (fun i => zsm S d k j q (32 + i)) = fun i => S (32 + i) := funext fun i => zsm_o (by omega) (by omega)
  rw [e, zsm_o (by omega) (by omega)]
set_option maxHeartbeats 4000000 in
set_option maxRecDepth 100000 in
theorem c_X6_tallies (l : Launch) (D : va_G) (cI cJ : ClassId) (h : Nat) (hs : Nat) (hN9 : Nat) (hp : Nat) (fs : List Value) (S : Nat → Int32) (NM : Nat → Int32) (PI : Nat → Int32) (len : Nat) (tk : zTk) (j : Nat) (k : Nat) (kd : Nat) (mi : Nat) (hf0 : fs[0]? = some (.ref hs)) (hf10 : fs[10]? = some (.ref hN9)) (hf11 : fs[11]? = some (.ref hp)) (htx : zTX S 0 len tk) (hwf : zWF len tk) (hj : j < 6) (hk : k < 14) (hkd : S (8 + 4 * j + 0) = nI kd) (hkd7 : kd < 7) (hmi : S 0 = nI mi) (hmi2 : mi < 20000) : zMi l yX6_tallies wsX6_tallies ({ frames := 3, cells := 0, slots := 0, locals := 71 } : Room) D [(cI, .int), (cJ, .array .int)] [.ref h, .int (nI j), .int (nI k)] [(h, .inr (6, fs)), (hs, .inl (cI, 380, .inl S)), (hN9, .inl (cI, 128, .inl NM)), (hp, .inl (cI, 64, .inl PI))] (fun r w => ∃ NM9 PI9 : Nat → Int32, r = zT len tk (fun i => S (32 + i)) (S 2) mi kd k ∧ w = [(h, .inr (6, fs)), (hs, .inl (cI, 380, .inl S)), (hN9, .inl (cI, 128, .inl NM9)), (hp, .inl (cI, 64, .inl PI9))]) := by
  refine zMi.start (cc := cX6_tallies) (maxL := 4) (rt := .int) (by first | decide | decide +kernel) rfl (Nat.le_of_ble_eq_true rfl) ?_
  intro pg ev s mt args below meth cd ls AA QQ ⟨hx, hb, hml, hr, hlocks, hown, hts, hK, hN, hZ, hP, hD, hA, hS, hl⟩ hret
  have hown : s.vm.findClass RX6 = some mt.cls := hown
  have hl : lv_has ls 4 [(0, .ref h), (1, .int (nI j)), (2, .int (nI k))] := hl
  have hin6 : ∀ w ∈ wsX60, w ∈ wsX6_tallies := fun w h => List.mem_cons_of_mem _ (List.mem_append_right _ (h))
  refine lv_iload_n hx hb dX6_tallies_0 rfl (lv_at hl 2 rfl) ?_
  refine lv_aload_n hx hb dX6_tallies_1 rfl (lv_at hl 0 rfl) ?_
  refine va_get (ci := 6) (v := .ref hs) (C := RX6) (T := TX6) (N := 20) hx hb hts hin6 hown hK hP 0 rfl rfl 0 (by decide) (hts (.fieldLink RX6 7 "UpAllRoundModel" "s" "[I") (List.mem_of_getElem? (i := 1) rfl)) (fun _ h9 => h9) hf0 dX6_tallies_2 ?_
  refine lv_iconst (v := nI 2) hx hb dX6_tallies_5 (by decide) ?_
  refine zald (t := 2) hx hb hK hP 1 rfl (by omega) (by decide) dX6_tallies_6 ?_
  refine lv_icmp_eq (tgt := 21) hx hb dX6_tallies_7 (by decide) (fun c7_1 => ?_) (fun c7_1 => ?_)
  · refine lv_iconst (v := nI 0) hx hb dX6_tallies_21 (by decide) ?_
    exact hret hP hD hS dX6_tallies_22 rfl (by refine ⟨_, _, ?_, rfl⟩; show _ = ztal kd (S 2) k _; rw [ztal, if_pos (Or.inl c7_1)]; rfl)
  · refine lv_aload_n hx hb dX6_tallies_10 rfl (lv_at hl 0 rfl) ?_
    refine lv_iload_n hx hb dX6_tallies_11 rfl (lv_at hl 1 rfl) ?_
    refine lv_iconst (v := nI 0) hx hb dX6_tallies_12 (by decide) ?_
    refine zcsE (va_runV (As := [.int (nI j), .int (nI 0)]) (rest := []) ⟨hx, hb, hml, hown, hts⟩ (c_X6_its l D cI cJ h hs fs S j 0 (by first | rfl | assumption | omega) (by first | rfl | assumption | omega) s.heap.size) (cwV 2 hts gX6_tallies_X6_its rfl rfl rfl (by decide +kernel) ⟨Nat.le_of_ble_eq_true rfl, Nat.le_of_ble_eq_true rfl⟩) (zpV hK hN hZ hP hD hS hA [0, 1] rfl (by decide) 0 rfl rfl rfl) rfl rfl hl.1 rfl (lv_room (Nat.le_of_ble_eq_true rfl)) dX6_tallies_13 ⟨Nat.zero_le _, Nat.zero_le _⟩) ?_
    refine zrw hkd ?_
    refine lv_bipush (v := nI 6) hx hb dX6_tallies_16 (by decide) ?_
    refine lv_icmp_ne (tgt := 23) hx hb dX6_tallies_18 (by decide) (fun c18_2 => ?_) (fun c18_2 => ?_)
    · have c18_2 : ¬ (kd = 6) := fun h9 => c18_2 ((nI_eq (a := kd) (b := 6) (by omega) (by omega)).mpr h9)
      refine lv_aload_n hx hb dX6_tallies_23 rfl (lv_at hl 0 rfl) ?_
      refine lv_aload_n hx hb dX6_tallies_24 rfl (lv_at hl 0 rfl) ?_
      refine va_get (ci := 6) (v := .ref hs) (C := RX6) (T := TX6) (N := 20) hx hb hts hin6 hown hK hP 0 rfl rfl 0 (by decide) (hts (.fieldLink RX6 7 "UpAllRoundModel" "s" "[I") (List.mem_of_getElem? (i := 1) rfl)) (fun _ h9 => h9) hf0 dX6_tallies_25 ?_
      refine lv_bipush (v := nI 32) hx hb dX6_tallies_28 (by decide) ?_
      refine lv_iload_n hx hb dX6_tallies_30 rfl (lv_at hl 2 rfl) ?_
      refine lv_iadd hx hb dX6_tallies_31 ?_
      refine zrw (nI_add _ _) ?_
      refine zald (t := 32 + k) hx hb hK hP 1 rfl (by omega) (by decide) dX6_tallies_32 ?_
      refine lv_iload_n hx hb dX6_tallies_33 rfl (lv_at hl 2 rfl) ?_
      refine lv_aload_n hx hb dX6_tallies_34 rfl (lv_at hl 0 rfl) ?_
      refine va_get (ci := 6) (v := .ref hs) (C := RX6) (T := TX6) (N := 20) hx hb hts hin6 hown hK hP 0 rfl rfl 0 (by decide) (hts (.fieldLink RX6 7 "UpAllRoundModel" "s" "[I") (List.mem_of_getElem? (i := 1) rfl)) (fun _ h9 => h9) hf0 dX6_tallies_35 ?_
      refine lv_iconst (v := nI 0) hx hb dX6_tallies_38 (by decide) ?_
      refine zald (t := 0) hx hb hK hP 1 rfl (by omega) (by decide) dX6_tallies_39 ?_
      refine zrw hmi ?_
      refine zci (wr := []) (va_runV (As := [.int (S (32 + k)), .int (nI k), .int (nI mi)]) (rest := []) ⟨hx, hb, hml, hown, hts⟩ (c_X6_countedTold l D cI cJ h hs hN9 hp fs S NM PI len tk (S (32 + k)) (nI k) (nI mi) (by first | rfl | assumption | omega) (by first | rfl | assumption | omega) (by first | rfl | assumption | omega) (by first | rfl | assumption | omega) (by first | rfl | assumption | omega) s.heap.size) (cwV 3 hts gX6_tallies_X6_countedTold rfl rfl rfl (by decide +kernel) ⟨Nat.le_of_ble_eq_true rfl, Nat.le_of_ble_eq_true rfl⟩) (zpV hK hN hZ hP hD hS hA [0, 1, 2, 3] rfl (by decide) 0 rfl rfl rfl) rfl rfl hl.1 rfl (lv_room (Nat.le_of_ble_eq_true rfl)) dX6_tallies_40 ⟨Nat.zero_le _, Nat.zero_le _⟩) hP hD hS hA [0, 1, 2, 3] [] rfl rfl (by decide) (by decide) (fun r_5 w_4 H locs h_3 hP hD hS => ?_)
      obtain ⟨NM9_6, PI9_7, rfl, rfl⟩ := h_3
      have hP : va_P D vwCl [(h, .inr (6, fs)), (hs, .inl (cI, 380, .inl S)), (hN9, .inl (cI, 128, .inl NM9_6)), (hp, .inl (cI, 64, .inl PI9_7))] H := hP
      have hD : va_D AA [(h, .inr (6, fs)), (hs, .inl (cI, 380, .inl S)), (hN9, .inl (cI, 128, .inl NM9_6)), (hp, .inl (cI, 64, .inl PI9_7))] := hD
      refine lv_topi (fun v ev => ?_)
      refine lv_istore_n (lv' := [(3, .int v), (0, .ref h), (1, .int (nI j)), (2, .int (nI k))]) hx hb dX6_tallies_43 rfl hl (by decide) rfl (fun ls hl => ?_)
      refine lv_aload_n hx hb dX6_tallies_44 rfl (lv_at hl 1 rfl) ?_
      refine lv_iload_n hx hb dX6_tallies_45 rfl (lv_at hl 2 rfl) ?_
      refine lv_iconst (v := nI 0) hx hb dX6_tallies_46 (by decide) ?_
      refine zcsE (va_runV (As := [.int (nI j), .int (nI 0)]) (rest := []) ⟨hx, hb, hml, hown, hts⟩ (c_X6_its l D cI cJ h hs fs S j 0 (by first | rfl | assumption | omega) (by first | rfl | assumption | omega) H.size) (cwV 2 hts gX6_tallies_X6_its rfl rfl rfl (by decide +kernel) ⟨Nat.le_of_ble_eq_true rfl, Nat.le_of_ble_eq_true rfl⟩) (zpV hK hN hZ hP hD hS hA [0, 1] rfl (by decide) 0 rfl rfl rfl) rfl rfl hl.1 rfl (lv_room (Nat.le_of_ble_eq_true rfl)) dX6_tallies_47 ⟨Nat.zero_le _, Nat.zero_le _⟩) ?_
      refine zrw hkd ?_
      refine lv_iconst (v := nI 4) hx hb dX6_tallies_50 (by decide) ?_
      refine lv_icmp_ne (tgt := 72) hx hb dX6_tallies_51 (by decide) (fun c51_8 => ?_) (fun c51_8 => ?_)
      · have c51_8 : ¬ (kd = 4) := fun h9 => c51_8 ((nI_eq (a := kd) (b := 4) (by omega) (by omega)).mpr h9)
        refine lv_aload_n hx hb dX6_tallies_72 rfl (lv_at hl 1 rfl) ?_
        refine lv_iload_n hx hb dX6_tallies_73 rfl (lv_at hl 2 rfl) ?_
        refine lv_iconst (v := nI 0) hx hb dX6_tallies_74 (by decide) ?_
        refine zcsE (va_runV (As := [.int (nI j), .int (nI 0)]) (rest := []) ⟨hx, hb, hml, hown, hts⟩ (c_X6_its l D cI cJ h hs fs S j 0 (by first | rfl | assumption | omega) (by first | rfl | assumption | omega) H.size) (cwV 2 hts gX6_tallies_X6_its rfl rfl rfl (by decide +kernel) ⟨Nat.le_of_ble_eq_true rfl, Nat.le_of_ble_eq_true rfl⟩) (zpV hK hN hZ hP hD hS hA [0, 1] rfl (by decide) 0 rfl rfl rfl) rfl rfl hl.1 rfl (lv_room (Nat.le_of_ble_eq_true rfl)) dX6_tallies_75 ⟨Nat.zero_le _, Nat.zero_le _⟩) ?_
        refine zrw hkd ?_
        refine lv_iconst (v := nI 5) hx hb dX6_tallies_78 (by decide) ?_
        refine lv_icmp_ne (tgt := 88) hx hb dX6_tallies_79 (by decide) (fun c79_9 => ?_) (fun c79_9 => ?_)
        · have c79_9 : ¬ (kd = 5) := fun h9 => c79_9 ((nI_eq (a := kd) (b := 5) (by omega) (by omega)).mpr h9)
          refine lv_iload_n hx hb dX6_tallies_88 rfl (lv_at hl 0 rfl) ?_
          exact hret hP hD hS dX6_tallies_89 rfl (by refine ⟨_, _, ?_, rfl⟩; show _ = ztal kd (S 2) k _; rw [ztal, if_neg (fun h9 => h9.elim c7_1 (by omega)), ← ev]; rw [if_neg (by omega), if_neg (by omega)])
        · have c79_9 : kd = 5 := (nI_eq (a := kd) (b := 5) (by omega) (by omega)).mp c79_9
          refine lv_iconst (v := nI 2) hx hb dX6_tallies_82 (by decide) ?_
          refine lv_iload_n hx hb dX6_tallies_83 rfl (lv_at hl 0 rfl) ?_
          refine lv_imul hx hb dX6_tallies_84 ?_
          refine lv_goto (tgt := 89) hx hb dX6_tallies_85 (by decide) ?_
          exact hret hP hD hS dX6_tallies_89 rfl (by refine ⟨_, _, ?_, rfl⟩; show _ = ztal kd (S 2) k _; rw [ztal, if_neg (fun h9 => h9.elim c7_1 (by omega)), ← ev]; rw [if_neg (by omega), if_pos (by omega)])
      · have c51_8 : kd = 4 := (nI_eq (a := kd) (b := 4) (by omega) (by omega)).mp c51_8
        refine lv_iload_n hx hb dX6_tallies_54 rfl (lv_at hl 0 rfl) ?_
        refine lv_if_le (tgt := 62) hx hb dX6_tallies_55 (by decide) (fun c55_10 => ?_) (fun c55_10 => ?_)
        · refine lv_iload_n hx hb dX6_tallies_62 rfl (lv_at hl 0 rfl) ?_
          refine lv_if_ge (tgt := 70) hx hb dX6_tallies_63 (by decide) (fun c63_11 => ?_) (fun c63_11 => ?_)
          · refine lv_iconst (v := nI 0) hx hb dX6_tallies_70 (by decide) ?_
            exact hret hP hD hS dX6_tallies_71 rfl (by refine ⟨_, _, ?_, rfl⟩; show _ = ztal kd (S 2) k _; rw [ztal, if_neg (fun h9 => h9.elim c7_1 (by omega)), ← ev]; rw [if_pos (by omega), zsgn]; rw [if_neg (by simp only [i_lt, i_le] at c55_10 ⊢; omega), if_neg (by simp only [i_lt, i_le] at c63_11 ⊢; omega)]; rfl)
          · refine lv_iconst (v := (-1)) hx hb dX6_tallies_66 (by decide) ?_
            refine lv_goto (tgt := 71) hx hb dX6_tallies_67 (by decide) ?_
            exact hret hP hD hS dX6_tallies_71 rfl (by refine ⟨_, _, ?_, rfl⟩; show _ = ztal kd (S 2) k _; rw [ztal, if_neg (fun h9 => h9.elim c7_1 (by omega)), ← ev]; rw [if_pos (by omega), zsgn]; rw [if_neg (by simp only [i_lt, i_le] at c55_10 ⊢; omega), if_pos (by simp only [i_lt, i_le] at c63_11 ⊢; omega)])
        · refine lv_iconst (v := nI 1) hx hb dX6_tallies_58 (by decide) ?_
          refine lv_goto (tgt := 71) hx hb dX6_tallies_59 (by decide) ?_
          exact hret hP hD hS dX6_tallies_71 rfl (by refine ⟨_, _, ?_, rfl⟩; show _ = ztal kd (S 2) k _; rw [ztal, if_neg (fun h9 => h9.elim c7_1 (by omega)), ← ev]; rw [if_pos (by omega), zsgn]; rw [if_pos (by simp only [i_lt, i_le] at c55_10 ⊢; omega)]; rfl)
    · have c18_2 : kd = 6 := (nI_eq (a := kd) (b := 6) (by omega) (by omega)).mp c18_2
      refine lv_iconst (v := nI 0) hx hb dX6_tallies_21 (by decide) ?_
      exact hret hP hD hS dX6_tallies_22 rfl (by refine ⟨_, _, ?_, rfl⟩; show _ = ztal kd (S 2) k _; rw [ztal, if_pos (Or.inr (by omega))]; rfl)
set_option maxHeartbeats 4000000 in
set_option maxRecDepth 100000 in
theorem c_X6_goes (l : Launch) (D : va_G) (cI cJ : ClassId) (h : Nat) (hs : Nat) (hN9 : Nat) (hp : Nat) (fs : List Value) (S : Nat → Int32) (NM : Nat → Int32) (PI : Nat → Int32) (n : Nat) (len : Nat) (tk : zTk) (j : Nat) (kd : Nat) (m : Nat) (mi : Nat) (a : Nat) (hf0 : fs[0]? = some (.ref hs)) (hf10 : fs[10]? = some (.ref hN9)) (hf11 : fs[11]? = some (.ref hp)) (htx : zTX S 0 len tk) (hwf : zWF len tk) (hn1 : S 1 = nI n) (hn4 : 4 ≤ n) (hn14 : n ≤ 14) (hj : j < 6) (hkd : S (8 + 4 * j + 0) = nI kd) (hmm : S (8 + 4 * j + 1) = nI m) (hmi : S 0 = nI mi) (hkd7 : kd < 7) (hm10 : m < 10) (hmi2 : mi < 20000) (ha2 : S (8 + 4 * j + 2) = nI a) (han : a < n) : zMv l yX6_goes wsX6_goes ({ frames := 4, cells := 0, slots := 0, locals := 94 } : Room) D [(cI, .int), (cJ, .array .int)] [.ref h, .int (nI j)] [(h, .inr (6, fs)), (hs, .inl (cI, 380, .inl S)), (hN9, .inl (cI, 128, .inl NM)), (hp, .inl (cI, 64, .inl PI))] (fun w => ∃ NM9 PI9 : Nat → Int32, w = [(h, .inr (6, fs)), (hs, .inl (cI, 380, .inl (zsc S j (zg1 n len tk (fun i => S (32 + i)) (S 2) kd m mi (a, S (8 + 4 * j + 3)))))), (hN9, .inl (cI, 128, .inl NM9)), (hp, .inl (cI, 64, .inl PI9))]) := by
  refine zMv.start (cc := cX6_goes) (maxL := 7) (by first | decide | decide +kernel) rfl (Nat.le_of_ble_eq_true rfl) ?_
  intro pg ev s mt args below meth cd ls AA QQ ⟨hx, hb, hml, hr, hlocks, hown, hts, hK, hN, hZ, hP, hD, hA, hS, hl⟩ hret
  have hown : s.vm.findClass RX6 = some mt.cls := hown
  have hl : lv_has ls 7 [(0, .ref h), (1, .int (nI j))] := hl
  have hin6 : ∀ w ∈ wsX60, w ∈ wsX6_goes := fun w h => List.mem_cons_of_mem _ (List.mem_append_right _ (h))
  refine lv_aload_n hx hb dX6_goes_0 rfl (lv_at hl 0 rfl) ?_
  refine lv_iload_n hx hb dX6_goes_1 rfl (lv_at hl 1 rfl) ?_
  refine zcsE (va_runV (As := [.int (nI j)]) (rest := []) ⟨hx, hb, hml, hown, hts⟩ (c_X6_goesBy l D cI cJ h hs fs S j kd m mi (by first | rfl | assumption | omega) (by first | rfl | assumption | omega) (by first | rfl | assumption | omega) (by first | rfl | assumption | omega) (by first | rfl | assumption | omega) (by first | rfl | assumption | omega) (by first | rfl | assumption | omega) (by first | rfl | assumption | omega) s.heap.size) (cwV 1 hts gX6_goes_X6_goesBy rfl rfl rfl (by decide +kernel) ⟨Nat.le_of_ble_eq_true rfl, Nat.le_of_ble_eq_true rfl⟩) (zpV hK hN hZ hP hD hS hA [0, 1] rfl (by decide) 0 rfl rfl rfl) rfl rfl hl.1 rfl (lv_room (Nat.le_of_ble_eq_true rfl)) dX6_goes_2 ⟨Nat.zero_le _, Nat.zero_le _⟩) ?_
  refine lv_istore_n (lv' := [(2, .int (zgoes kd m mi)), (0, .ref h), (1, .int (nI j))]) hx hb dX6_goes_5 rfl hl (by decide) rfl (fun ls hl => ?_)
  refine lv_aload_n hx hb dX6_goes_6 rfl (lv_at hl 1 rfl) ?_
  refine va_get (ci := 6) (v := .ref hs) (C := RX6) (T := TX6) (N := 20) hx hb hts hin6 hown hK hP 0 rfl rfl 0 (by decide) (hts (.fieldLink RX6 7 "UpAllRoundModel" "s" "[I") (List.mem_of_getElem? (i := 1) rfl)) (fun _ h9 => h9) hf0 dX6_goes_7 ?_
  refine lv_iconst (v := nI 1) hx hb dX6_goes_10 (by decide) ?_
  refine zald (t := 1) hx hb hK hP 1 rfl (by omega) (by decide) dX6_goes_11 ?_
  refine zrw hn1 ?_
  refine lv_istore_n (lv' := [(3, .int (nI n)), (2, .int (zgoes kd m mi)), (0, .ref h), (1, .int (nI j))]) hx hb dX6_goes_12 rfl hl (by decide) rfl (fun ls hl => ?_)
  have hud0 := zgo_one kd m mi
  have hle0 := zgo_le (kd := kd) (mi := mi) hm10
  rw [← zsc_id ha2] at hP hD
  have L_13 : ∀ (fu : Nat) (u : Nat) (d : Nat) (p : Nat × Int32) (NMv : Nat → Int32) (PIv : Nat → Int32) (hn : u + d < fu) (hud : u = 0 ∨ d = 0) (hu10 : u ≤ 10) (hd10 : d ≤ 10) (hpn : p.1 < n) (hres : zwd n (zT len tk (fun i => S (32 + i)) (S 2) mi kd) d (zwu n (zT len tk (fun i => S (32 + i)) (S 2) mi kd) u p) = zg1 n len tk (fun i => S (32 + i)) (S 2) kd m mi (a, S (8 + 4 * j + 3))), ∀ (ls : Array Slot), lv_has ls 7 [(0, .ref h), (1, .int (nI j)), (2, .int (nI u - nI d)), (3, .int (nI n))] → ∀ (H : Heap) (locs : List Loc), va_P D vwCl [(h, .inr (6, fs)), (hs, .inl (cI, 380, .inl (zsc S j p))), (hN9, .inl (cI, 128, .inl NMv)), (hp, .inl (cI, 64, .inl PIv))] H → va_D AA [(h, .inr (6, fs)), (hs, .inl (cI, 380, .inl (zsc S j p))), (hN9, .inl (cI, 128, .inl NMv)), (hp, .inl (cI, 64, .inl PIv))] → va_S AA s.heap H locs → W pg l ev ({ frames := 4, cells := 0, slots := 0, locals := 94 } : Room) s mt args below meth cd H locs 0 0 QQ (F0 mt 13 ls []) := by
    intro fu
    induction fu with
    | zero =>
      intro  u d p NMv PIv  hn
      exact absurd hn (by omega)
    | succ fu ih_13 =>
      intro  u d p NMv PIv  hn hud hu10 hd10 hpn hres ls hl H locs hP hD hS
      rcases zcase3 hud with ⟨h1, h2⟩ | ⟨u9, h1, h2⟩ | ⟨d9, h1, h2⟩
      · subst h1 h2
        rw [show nI 0 - nI 0 = nI 0 from rfl] at hl
        refine lv_iload_n hx hb dX6_goes_13 rfl (lv_at hl 2 rfl) ?_
        refine lv_if_eq (tgt := 119) hx hb dX6_goes_14 (by decide) (fun c14_1 => ?_) (fun c14_1 => ?_)
        · have c14_1 : 0 = 0 := (nI_eq (a := 0) (b := 0) (by omega) (by omega)).mp c14_1
          exact hret hP hD hS dX6_goes_119 (by exact ⟨_, _, by rw [← hres]; rfl⟩)
        · have c14_1 : ¬ (0 = 0) := fun h9 => c14_1 ((nI_eq (a := 0) (b := 0) (by omega) (by omega)).mpr h9)
          exact absurd c14_1 (by omega)
      · subst h1 h2
        rw [show nI (u9 + 1) - nI 0 = nI (u9 + 1) from Int32.sub_zero _] at hl
        refine lv_iload_n hx hb dX6_goes_13 rfl (lv_at hl 2 rfl) ?_
        refine lv_if_eq (tgt := 119) hx hb dX6_goes_14 (by decide) (fun c14_2 => ?_) (fun c14_2 => ?_)
        · have c14_2 : (u9 + 1) = 0 := (nI_eq (a := u9 + 1) (b := 0) (by omega) (by omega)).mp c14_2
          exact absurd c14_2 (by omega)
        · have c14_2 : ¬ ((u9 + 1) = 0) := fun h9 => c14_2 ((nI_eq (a := u9 + 1) (b := 0) (by omega) (by omega)).mpr h9)
          refine lv_aload_n hx hb dX6_goes_17 rfl (lv_at hl 0 rfl) ?_
          refine lv_iload_n hx hb dX6_goes_18 rfl (lv_at hl 1 rfl) ?_
          refine lv_iconst (v := nI 2) hx hb dX6_goes_19 (by decide) ?_
          refine zcsE (va_runV (As := [.int (nI j), .int (nI 2)]) (rest := []) ⟨hx, hb, hml, hown, hts⟩ (c_X6_its l D cI cJ h hs fs (zsc S j p) j 2 (by first | rfl | assumption | omega) (by first | rfl | assumption | omega) H.size) (cwV 2 hts gX6_goes_X6_its rfl rfl rfl (by decide +kernel) ⟨Nat.le_of_ble_eq_true rfl, Nat.le_of_ble_eq_true rfl⟩) (zpV hK hN hZ hP hD hS hA [0, 1] rfl (by decide) 0 rfl rfl rfl) rfl rfl hl.1 rfl (lv_room (Nat.le_of_ble_eq_true rfl)) dX6_goes_20 ⟨Nat.zero_le _, Nat.zero_le _⟩) ?_
          refine zrw zsc_2 ?_
          refine lv_istore (lv' := [(4, .int (nI p.1)), (0, .ref h), (1, .int (nI j)), (2, .int (nI (u9 + 1))), (3, .int (nI n))]) hx hb dX6_goes_23 hl (by decide) rfl (fun ls hl => ?_)
          refine lv_iload_n hx hb dX6_goes_25 rfl (lv_at hl 3 rfl) ?_
          refine lv_if_le (tgt := 38) hx hb dX6_goes_26 (by decide) (fun c26_3 => ?_) (fun c26_3 => ?_)
          · have c26_3 : (u9 + 1) ≤ 0 := (nI_leI (a := u9 + 1) (b := 0) (by omega) (by omega)).mp c26_3
            exact absurd c26_3 (by omega)
          · have c26_3 : ¬ ((u9 + 1) ≤ 0) := fun h9 => c26_3 ((nI_leI (a := u9 + 1) (b := 0) (by omega) (by omega)).mpr h9)
            refine lv_iload hx hb dX6_goes_29 (lv_at hl 0 rfl) ?_
            refine lv_iconst (v := nI 1) hx hb dX6_goes_31 (by decide) ?_
            refine lv_iadd hx hb dX6_goes_32 ?_
            refine zrw (nI_add _ _) ?_
            refine lv_iload_n hx hb dX6_goes_33 rfl (lv_at hl 4 rfl) ?_
            refine lv_irem hx hb dX6_goes_34 (nI_ne0 (by omega) (by omega)) ?_
            refine zrw (pk_rem (by omega) (by omega) (by omega)) ?_
            refine lv_goto (tgt := 46) hx hb dX6_goes_35 (by decide) ?_
            refine lv_istore (lv' := [(5, .int (nI ((p.1 + 1) % n))), (4, .int (nI p.1)), (0, .ref h), (1, .int (nI j)), (2, .int (nI (u9 + 1))), (3, .int (nI n))]) hx hb dX6_goes_46 hl (by decide) rfl (fun ls hl => ?_)
            refine lv_iload_n hx hb dX6_goes_48 rfl (lv_at hl 4 rfl) ?_
            refine lv_if_le (tgt := 62) hx hb dX6_goes_49 (by decide) (fun c49_4 => ?_) (fun c49_4 => ?_)
            · have c49_4 : (u9 + 1) ≤ 0 := (nI_leI (a := u9 + 1) (b := 0) (by omega) (by omega)).mp c49_4
              exact absurd c49_4 (by omega)
            · have c49_4 : ¬ ((u9 + 1) ≤ 0) := fun h9 => c49_4 ((nI_leI (a := u9 + 1) (b := 0) (by omega) (by omega)).mpr h9)
              refine lv_aload_n hx hb dX6_goes_52 rfl (lv_at hl 2 rfl) ?_
              refine lv_iload_n hx hb dX6_goes_53 rfl (lv_at hl 3 rfl) ?_
              refine lv_iload hx hb dX6_goes_54 (lv_at hl 1 rfl) ?_
              refine zci (wr := []) (va_runV (As := [.int (nI j), .int (nI p.1)]) (rest := []) ⟨hx, hb, hml, hown, hts⟩ (c_X6_tallies l D cI cJ h hs hN9 hp fs (zsc S j p) NMv PIv len tk j p.1 kd mi (by first | rfl | assumption | omega) (by first | rfl | assumption | omega) (by first | rfl | assumption | omega) (zTX_sc hj htx) (by first | rfl | assumption | omega) (by first | rfl | assumption | omega) (by have := Nat.mod_lt (p.1 + (n - 1)) (show 0 < n by omega); omega) (by rw [zsc_o (by omega) (by omega)]; exact hkd) (by first | rfl | assumption | omega) (by rw [zsc_o (by omega) (by omega)]; exact hmi) (by first | rfl | assumption | omega) H.size) (cwV 2 hts gX6_goes_X6_tallies rfl rfl rfl (by decide +kernel) ⟨Nat.le_of_ble_eq_true rfl, Nat.le_of_ble_eq_true rfl⟩) (zpV hK hN hZ hP hD hS hA [0, 1, 2, 3] rfl (by decide) 0 rfl rfl rfl) rfl rfl hl.1 rfl (lv_room (Nat.le_of_ble_eq_true rfl)) dX6_goes_56 ⟨Nat.zero_le _, Nat.zero_le _⟩) hP hD hS hA [0, 1, 2, 3] [] rfl rfl (by decide) (by decide) (fun r_7 w_6 H locs h_5 hP hD hS => ?_)
              obtain ⟨NM9_8, PI9_9, rfl, rfl⟩ := h_5
              have hP : va_P D vwCl [(h, .inr (6, fs)), (hs, .inl (cI, 380, .inl ((zsc S j p)))), (hN9, .inl (cI, 128, .inl NM9_8)), (hp, .inl (cI, 64, .inl PI9_9))] H := hP
              have hD : va_D AA [(h, .inr (6, fs)), (hs, .inl (cI, 380, .inl ((zsc S j p)))), (hN9, .inl (cI, 128, .inl NM9_8)), (hp, .inl (cI, 64, .inl PI9_9))] := hD
              refine zrw (congrFun (zT_sc hj) _) ?_
              refine lv_goto (tgt := 70) hx hb dX6_goes_59 (by decide) ?_
              refine lv_istore (lv' := [(6, .int (zT len tk (fun i => S (32 + i)) (S 2) mi kd (p.1))), (5, .int (nI ((p.1 + 1) % n))), (4, .int (nI p.1)), (0, .ref h), (1, .int (nI j)), (2, .int (nI (u9 + 1))), (3, .int (nI n))]) hx hb dX6_goes_70 hl (by decide) rfl (fun ls hl => ?_)
              refine lv_aload_n hx hb dX6_goes_72 rfl (lv_at hl 3 rfl) ?_
              refine lv_iload_n hx hb dX6_goes_73 rfl (lv_at hl 4 rfl) ?_
              refine lv_iconst (v := nI 3) hx hb dX6_goes_74 (by decide) ?_
              refine lv_aload_n hx hb dX6_goes_75 rfl (lv_at hl 3 rfl) ?_
              refine lv_iload_n hx hb dX6_goes_76 rfl (lv_at hl 4 rfl) ?_
              refine lv_iconst (v := nI 3) hx hb dX6_goes_77 (by decide) ?_
              refine zcsE (va_runV (As := [.int (nI j), .int (nI 3)]) (rest := [.int (nI 3), .int (nI j), .ref h]) ⟨hx, hb, hml, hown, hts⟩ (c_X6_its l D cI cJ h hs fs ((zsc S j p)) j 3 (by first | rfl | assumption | omega) (by first | rfl | assumption | omega) H.size) (cwV 2 hts gX6_goes_X6_its rfl rfl rfl (by decide +kernel) ⟨Nat.le_of_ble_eq_true rfl, Nat.le_of_ble_eq_true rfl⟩) (zpV hK hN hZ hP hD hS hA [0, 1] rfl (by decide) 0 rfl rfl rfl) rfl rfl hl.1 rfl (lv_room (Nat.le_of_ble_eq_true rfl)) dX6_goes_78 ⟨Nat.zero_le _, Nat.zero_le _⟩) ?_
              refine zrw zsc_3 ?_
              refine lv_iload hx hb dX6_goes_81 (lv_at hl 0 rfl) ?_
              refine lv_iadd hx hb dX6_goes_83 ?_
              refine lv_sipush (v := (-9999)) hx hb dX6_goes_84 (by decide) ?_
              refine lv_sipush (v := nI 9999) hx hb dX6_goes_87 (by decide) ?_
              refine zcsE (va_runS (As := [.int (p.2 + (zT len tk (fun i => S (32 + i)) (S 2) mi kd (p.1))), .int ((-9999)), .int (nI 9999)]) (rest := [.int (nI 3), .int (nI j), .ref h]) ⟨hx, hb, hml, hown, hts⟩ (c_X6_held l D cI cJ (p.2 + (zT len tk (fun i => S (32 + i)) (S 2) mi kd (p.1))) ((-9999)) (nI 9999)  H.size) (va_cwS 3 hts gX6_goes_X6_held rfl rfl rfl (by decide +kernel) ⟨Nat.le_of_ble_eq_true rfl, Nat.le_of_ble_eq_true rfl⟩) (zpS hK hN hZ hP hD hS hA [] rfl (by decide)) rfl rfl hl.1 rfl (lv_room (Nat.le_of_ble_eq_true rfl)) dX6_goes_90 ⟨Nat.zero_le _, Nat.zero_le _⟩) ?_
              refine zcv (wr := [(hN9, .inl (cI, 128, .inl NM9_8)), (hp, .inl (cI, 64, .inl PI9_9))]) (va_runV (As := [.int (nI j), .int (nI 3), .int (zheld (p.2 + (zT len tk (fun i => S (32 + i)) (S 2) mi kd (p.1))) ((-9999)) (nI 9999))]) (rest := []) ⟨hx, hb, hml, hown, hts⟩ (c_X6_lays1 l D cI cJ h hs fs ((zsc S j p)) j 3 (zheld (p.2 + (zT len tk (fun i => S (32 + i)) (S 2) mi kd (p.1))) ((-9999)) (nI 9999)) (by first | rfl | assumption | omega) (by first | rfl | assumption | omega) H.size) (cwV 3 hts gX6_goes_X6_lays1 rfl rfl rfl (by decide +kernel) ⟨Nat.le_of_ble_eq_true rfl, Nat.le_of_ble_eq_true rfl⟩) (zpV hK hN hZ hP hD hS hA [0, 1] rfl (by decide) 0 rfl rfl rfl) rfl rfl hl.1 rfl (lv_room (Nat.le_of_ble_eq_true rfl)) dX6_goes_93 ⟨Nat.zero_le _, Nat.zero_le _⟩) hP hD hS hA [0, 1] [2, 3] rfl rfl (by decide) (by decide) (fun w_11 H locs h_10 hP hD hS => ?_)
              obtain rfl := h_10
              have hP : va_P D vwCl [(hN9, .inl (cI, 128, .inl NM9_8)), (hp, .inl (cI, 64, .inl PI9_9)), (h, .inr (6, fs)), (hs, .inl (cI, 380, .inl (upd ((zsc S j p)) (8 + 4 * j + 3) (zheld (p.2 + (zT len tk (fun i => S (32 + i)) (S 2) mi kd (p.1))) ((-9999)) (nI 9999)))))] H := hP
              have hD : va_D AA [(hN9, .inl (cI, 128, .inl NM9_8)), (hp, .inl (cI, 64, .inl PI9_9)), (h, .inr (6, fs)), (hs, .inl (cI, 380, .inl (upd ((zsc S j p)) (8 + 4 * j + 3) (zheld (p.2 + (zT len tk (fun i => S (32 + i)) (S 2) mi kd (p.1))) ((-9999)) (nI 9999)))))] := hD
              refine lv_aload_n hx hb dX6_goes_96 rfl (lv_at hl 3 rfl) ?_
              refine lv_iload_n hx hb dX6_goes_97 rfl (lv_at hl 4 rfl) ?_
              refine lv_iconst (v := nI 2) hx hb dX6_goes_98 (by decide) ?_
              refine lv_iload hx hb dX6_goes_99 (lv_at hl 1 rfl) ?_
              refine zcv (wr := [(hN9, .inl (cI, 128, .inl NM9_8)), (hp, .inl (cI, 64, .inl PI9_9))]) (va_runV (As := [.int (nI j), .int (nI 2), .int (nI ((p.1 + 1) % n))]) (rest := []) ⟨hx, hb, hml, hown, hts⟩ (c_X6_lays1 l D cI cJ h hs fs (upd ((zsc S j p)) (8 + 4 * j + 3) (zheld (p.2 + (zT len tk (fun i => S (32 + i)) (S 2) mi kd (p.1))) ((-9999)) (nI 9999))) j 2 (nI ((p.1 + 1) % n)) (by first | rfl | assumption | omega) (by first | rfl | assumption | omega) H.size) (cwV 3 hts gX6_goes_X6_lays1 rfl rfl rfl (by decide +kernel) ⟨Nat.le_of_ble_eq_true rfl, Nat.le_of_ble_eq_true rfl⟩) (zpV hK hN hZ hP hD hS hA [2, 3] rfl (by decide) 2 rfl rfl rfl) rfl rfl hl.1 rfl (lv_room (Nat.le_of_ble_eq_true rfl)) dX6_goes_101 ⟨Nat.zero_le _, Nat.zero_le _⟩) hP hD hS hA [2, 3] [0, 1] rfl rfl (by decide) (by decide) (fun w_13 H locs h_12 hP hD hS => ?_)
              obtain rfl := h_12
              have hP : va_P D vwCl [(hN9, .inl (cI, 128, .inl NM9_8)), (hp, .inl (cI, 64, .inl PI9_9)), (h, .inr (6, fs)), (hs, .inl (cI, 380, .inl (upd (upd ((zsc S j p)) (8 + 4 * j + 3) (zheld (p.2 + (zT len tk (fun i => S (32 + i)) (S 2) mi kd (p.1))) ((-9999)) (nI 9999))) (8 + 4 * j + 2) (nI ((p.1 + 1) % n)))))] H := hP
              have hD : va_D AA [(hN9, .inl (cI, 128, .inl NM9_8)), (hp, .inl (cI, 64, .inl PI9_9)), (h, .inr (6, fs)), (hs, .inl (cI, 380, .inl (upd (upd ((zsc S j p)) (8 + 4 * j + 3) (zheld (p.2 + (zT len tk (fun i => S (32 + i)) (S 2) mi kd (p.1))) ((-9999)) (nI 9999))) (8 + 4 * j + 2) (nI ((p.1 + 1) % n)))))] := hD
              refine lv_iload_n hx hb dX6_goes_104 rfl (lv_at hl 5 rfl) ?_
              refine lv_iload_n hx hb dX6_goes_105 rfl (lv_at hl 5 rfl) ?_
              refine lv_if_le (tgt := 113) hx hb dX6_goes_106 (by decide) (fun c106_14 => ?_) (fun c106_14 => ?_)
              · have c106_14 : (u9 + 1) ≤ 0 := (nI_leI (a := u9 + 1) (b := 0) (by omega) (by omega)).mp c106_14
                exact absurd c106_14 (by omega)
              · have c106_14 : ¬ ((u9 + 1) ≤ 0) := fun h9 => c106_14 ((nI_leI (a := u9 + 1) (b := 0) (by omega) (by omega)).mpr h9)
                refine lv_iconst (v := (-1)) hx hb dX6_goes_109 (by decide) ?_
                refine lv_goto (tgt := 114) hx hb dX6_goes_110 (by decide) ?_
                refine lv_iadd hx hb dX6_goes_114 ?_
                refine zrw (show nI (u9 + 1) + (-1) = nI u9 - nI 0 from by rw [pk_m1]; exact (Int32.sub_zero _).symm) ?_
                refine lv_istore_n (lv' := [(2, .int (nI u9 - nI 0)), (6, .int (zT len tk (fun i => S (32 + i)) (S 2) mi kd (p.1))), (5, .int (nI ((p.1 + 1) % n))), (4, .int (nI p.1)), (0, .ref h), (1, .int (nI j)), (3, .int (nI n))]) hx hb dX6_goes_115 rfl hl (by decide) rfl (fun ls hl => ?_)
                refine lv_goto (tgt := 13) hx hb dX6_goes_116 (by decide) ?_
                rw [zsc_s] at hP hD
                exact ih_13   u9 0 (((p.1 + 1) % n, zheld (p.2 + zT len tk (fun i => S (32 + i)) (S 2) mi kd p.1) (-9999) 9999)) NM9_8 PI9_9 (by omega) (Or.inr rfl) (by omega) (by omega) (Nat.mod_lt _ (by omega)) hres ls (lv_sub hl [4, 5, 0, 6] rfl) H locs (hP.sub [2, 3, 0, 1] rfl) (hD.sub [2, 3, 0, 1] (by decide) rfl) hS
      · subst h1 h2
        rw [show nI 0 - nI (d9 + 1) = -nI (d9 + 1) from Int32.zero_sub _] at hl
        have hti : (-nI (d9 + 1) : Int32).toInt = -((d9 + 1 : Nat) : Int) := sb_negT (by omega)
        refine lv_iload_n hx hb dX6_goes_13 rfl (lv_at hl 2 rfl) ?_
        refine lv_if_eq (tgt := 119) hx hb dX6_goes_14 (by decide) (fun c14_15 => ?_) (fun c14_15 => ?_)
        · exact absurd c14_15 (by simp only [i_lt, i_le, i_eq, Int32.toInt_zero, hti]; omega)
        · refine lv_aload_n hx hb dX6_goes_17 rfl (lv_at hl 0 rfl) ?_
          refine lv_iload_n hx hb dX6_goes_18 rfl (lv_at hl 1 rfl) ?_
          refine lv_iconst (v := nI 2) hx hb dX6_goes_19 (by decide) ?_
          refine zcsE (va_runV (As := [.int (nI j), .int (nI 2)]) (rest := []) ⟨hx, hb, hml, hown, hts⟩ (c_X6_its l D cI cJ h hs fs (zsc S j p) j 2 (by first | rfl | assumption | omega) (by first | rfl | assumption | omega) H.size) (cwV 2 hts gX6_goes_X6_its rfl rfl rfl (by decide +kernel) ⟨Nat.le_of_ble_eq_true rfl, Nat.le_of_ble_eq_true rfl⟩) (zpV hK hN hZ hP hD hS hA [0, 1] rfl (by decide) 0 rfl rfl rfl) rfl rfl hl.1 rfl (lv_room (Nat.le_of_ble_eq_true rfl)) dX6_goes_20 ⟨Nat.zero_le _, Nat.zero_le _⟩) ?_
          refine zrw zsc_2 ?_
          refine lv_istore (lv' := [(4, .int (nI p.1)), (0, .ref h), (1, .int (nI j)), (2, .int (-nI (d9 + 1))), (3, .int (nI n))]) hx hb dX6_goes_23 hl (by decide) rfl (fun ls hl => ?_)
          refine lv_iload_n hx hb dX6_goes_25 rfl (lv_at hl 3 rfl) ?_
          refine lv_if_le (tgt := 38) hx hb dX6_goes_26 (by decide) (fun c26_16 => ?_) (fun c26_16 => ?_)
          · refine lv_iload hx hb dX6_goes_38 (lv_at hl 0 rfl) ?_
            refine lv_iload_n hx hb dX6_goes_40 rfl (lv_at hl 4 rfl) ?_
            refine lv_iadd hx hb dX6_goes_41 ?_
            refine zrw (nI_add _ _) ?_
            refine lv_iconst (v := nI 1) hx hb dX6_goes_42 (by decide) ?_
            refine lv_isub hx hb dX6_goes_43 ?_
            refine zrw (pk_sub (by omega)) ?_
            refine lv_iload_n hx hb dX6_goes_44 rfl (lv_at hl 4 rfl) ?_
            refine lv_irem hx hb dX6_goes_45 (nI_ne0 (by omega) (by omega)) ?_
            refine zrw (pk_rem (by omega) (by omega) (by omega)) ?_
            refine zrw (show nI ((p.1 + n - 1) % n) = nI ((p.1 + (n - 1)) % n) from by rw [Nat.add_sub_assoc (by omega)]) ?_
            refine lv_istore (lv' := [(5, .int (nI ((p.1 + (n - 1)) % n))), (4, .int (nI p.1)), (0, .ref h), (1, .int (nI j)), (2, .int (-nI (d9 + 1))), (3, .int (nI n))]) hx hb dX6_goes_46 hl (by decide) rfl (fun ls hl => ?_)
            refine lv_iload_n hx hb dX6_goes_48 rfl (lv_at hl 4 rfl) ?_
            refine lv_if_le (tgt := 62) hx hb dX6_goes_49 (by decide) (fun c49_17 => ?_) (fun c49_17 => ?_)
            · refine lv_aload_n hx hb dX6_goes_62 rfl (lv_at hl 2 rfl) ?_
              refine lv_iload_n hx hb dX6_goes_63 rfl (lv_at hl 3 rfl) ?_
              refine lv_iload hx hb dX6_goes_64 (lv_at hl 0 rfl) ?_
              refine zci (wr := []) (va_runV (As := [.int (nI j), .int (nI ((p.1 + (n - 1)) % n))]) (rest := []) ⟨hx, hb, hml, hown, hts⟩ (c_X6_tallies l D cI cJ h hs hN9 hp fs (zsc S j p) NMv PIv len tk j ((p.1 + (n - 1)) % n) kd mi (by first | rfl | assumption | omega) (by first | rfl | assumption | omega) (by first | rfl | assumption | omega) (zTX_sc hj htx) (by first | rfl | assumption | omega) (by first | rfl | assumption | omega) (by have := Nat.mod_lt (p.1 + (n - 1)) (show 0 < n by omega); omega) (by rw [zsc_o (by omega) (by omega)]; exact hkd) (by first | rfl | assumption | omega) (by rw [zsc_o (by omega) (by omega)]; exact hmi) (by first | rfl | assumption | omega) H.size) (cwV 2 hts gX6_goes_X6_tallies rfl rfl rfl (by decide +kernel) ⟨Nat.le_of_ble_eq_true rfl, Nat.le_of_ble_eq_true rfl⟩) (zpV hK hN hZ hP hD hS hA [0, 1, 2, 3] rfl (by decide) 0 rfl rfl rfl) rfl rfl hl.1 rfl (lv_room (Nat.le_of_ble_eq_true rfl)) dX6_goes_66 ⟨Nat.zero_le _, Nat.zero_le _⟩) hP hD hS hA [0, 1, 2, 3] [] rfl rfl (by decide) (by decide) (fun r_20 w_19 H locs h_18 hP hD hS => ?_)
              obtain ⟨NM9_21, PI9_22, rfl, rfl⟩ := h_18
              have hP : va_P D vwCl [(h, .inr (6, fs)), (hs, .inl (cI, 380, .inl ((zsc S j p)))), (hN9, .inl (cI, 128, .inl NM9_21)), (hp, .inl (cI, 64, .inl PI9_22))] H := hP
              have hD : va_D AA [(h, .inr (6, fs)), (hs, .inl (cI, 380, .inl ((zsc S j p)))), (hN9, .inl (cI, 128, .inl NM9_21)), (hp, .inl (cI, 64, .inl PI9_22))] := hD
              refine zrw (congrFun (zT_sc hj) _) ?_
              refine lv_ineg hx hb dX6_goes_69 ?_
              refine lv_istore (lv' := [(6, .int (-(zT len tk (fun i => S (32 + i)) (S 2) mi kd ((p.1 + (n - 1)) % n)))), (5, .int (nI ((p.1 + (n - 1)) % n))), (4, .int (nI p.1)), (0, .ref h), (1, .int (nI j)), (2, .int (-nI (d9 + 1))), (3, .int (nI n))]) hx hb dX6_goes_70 hl (by decide) rfl (fun ls hl => ?_)
              refine lv_aload_n hx hb dX6_goes_72 rfl (lv_at hl 3 rfl) ?_
              refine lv_iload_n hx hb dX6_goes_73 rfl (lv_at hl 4 rfl) ?_
              refine lv_iconst (v := nI 3) hx hb dX6_goes_74 (by decide) ?_
              refine lv_aload_n hx hb dX6_goes_75 rfl (lv_at hl 3 rfl) ?_
              refine lv_iload_n hx hb dX6_goes_76 rfl (lv_at hl 4 rfl) ?_
              refine lv_iconst (v := nI 3) hx hb dX6_goes_77 (by decide) ?_
              refine zcsE (va_runV (As := [.int (nI j), .int (nI 3)]) (rest := [.int (nI 3), .int (nI j), .ref h]) ⟨hx, hb, hml, hown, hts⟩ (c_X6_its l D cI cJ h hs fs ((zsc S j p)) j 3 (by first | rfl | assumption | omega) (by first | rfl | assumption | omega) H.size) (cwV 2 hts gX6_goes_X6_its rfl rfl rfl (by decide +kernel) ⟨Nat.le_of_ble_eq_true rfl, Nat.le_of_ble_eq_true rfl⟩) (zpV hK hN hZ hP hD hS hA [0, 1] rfl (by decide) 0 rfl rfl rfl) rfl rfl hl.1 rfl (lv_room (Nat.le_of_ble_eq_true rfl)) dX6_goes_78 ⟨Nat.zero_le _, Nat.zero_le _⟩) ?_
              refine zrw zsc_3 ?_
              refine lv_iload hx hb dX6_goes_81 (lv_at hl 0 rfl) ?_
              refine lv_iadd hx hb dX6_goes_83 ?_
              refine zrw (Int32.sub_eq_add_neg _ _).symm ?_
              refine lv_sipush (v := (-9999)) hx hb dX6_goes_84 (by decide) ?_
              refine lv_sipush (v := nI 9999) hx hb dX6_goes_87 (by decide) ?_
              refine zcsE (va_runS (As := [.int (p.2 - zT len tk (fun i => S (32 + i)) (S 2) mi kd ((p.1 + (n - 1)) % n)), .int ((-9999)), .int (nI 9999)]) (rest := [.int (nI 3), .int (nI j), .ref h]) ⟨hx, hb, hml, hown, hts⟩ (c_X6_held l D cI cJ (p.2 - zT len tk (fun i => S (32 + i)) (S 2) mi kd ((p.1 + (n - 1)) % n)) ((-9999)) (nI 9999)  H.size) (va_cwS 3 hts gX6_goes_X6_held rfl rfl rfl (by decide +kernel) ⟨Nat.le_of_ble_eq_true rfl, Nat.le_of_ble_eq_true rfl⟩) (zpS hK hN hZ hP hD hS hA [] rfl (by decide)) rfl rfl hl.1 rfl (lv_room (Nat.le_of_ble_eq_true rfl)) dX6_goes_90 ⟨Nat.zero_le _, Nat.zero_le _⟩) ?_
              refine zcv (wr := [(hN9, .inl (cI, 128, .inl NM9_21)), (hp, .inl (cI, 64, .inl PI9_22))]) (va_runV (As := [.int (nI j), .int (nI 3), .int (zheld (p.2 - zT len tk (fun i => S (32 + i)) (S 2) mi kd ((p.1 + (n - 1)) % n)) ((-9999)) (nI 9999))]) (rest := []) ⟨hx, hb, hml, hown, hts⟩ (c_X6_lays1 l D cI cJ h hs fs ((zsc S j p)) j 3 (zheld (p.2 - zT len tk (fun i => S (32 + i)) (S 2) mi kd ((p.1 + (n - 1)) % n)) ((-9999)) (nI 9999)) (by first | rfl | assumption | omega) (by first | rfl | assumption | omega) H.size) (cwV 3 hts gX6_goes_X6_lays1 rfl rfl rfl (by decide +kernel) ⟨Nat.le_of_ble_eq_true rfl, Nat.le_of_ble_eq_true rfl⟩) (zpV hK hN hZ hP hD hS hA [0, 1] rfl (by decide) 0 rfl rfl rfl) rfl rfl hl.1 rfl (lv_room (Nat.le_of_ble_eq_true rfl)) dX6_goes_93 ⟨Nat.zero_le _, Nat.zero_le _⟩) hP hD hS hA [0, 1] [2, 3] rfl rfl (by decide) (by decide) (fun w_24 H locs h_23 hP hD hS => ?_)
              obtain rfl := h_23
              have hP : va_P D vwCl [(hN9, .inl (cI, 128, .inl NM9_21)), (hp, .inl (cI, 64, .inl PI9_22)), (h, .inr (6, fs)), (hs, .inl (cI, 380, .inl (upd ((zsc S j p)) (8 + 4 * j + 3) (zheld (p.2 - zT len tk (fun i => S (32 + i)) (S 2) mi kd ((p.1 + (n - 1)) % n)) ((-9999)) (nI 9999)))))] H := hP
              have hD : va_D AA [(hN9, .inl (cI, 128, .inl NM9_21)), (hp, .inl (cI, 64, .inl PI9_22)), (h, .inr (6, fs)), (hs, .inl (cI, 380, .inl (upd ((zsc S j p)) (8 + 4 * j + 3) (zheld (p.2 - zT len tk (fun i => S (32 + i)) (S 2) mi kd ((p.1 + (n - 1)) % n)) ((-9999)) (nI 9999)))))] := hD
              refine lv_aload_n hx hb dX6_goes_96 rfl (lv_at hl 3 rfl) ?_
              refine lv_iload_n hx hb dX6_goes_97 rfl (lv_at hl 4 rfl) ?_
              refine lv_iconst (v := nI 2) hx hb dX6_goes_98 (by decide) ?_
              refine lv_iload hx hb dX6_goes_99 (lv_at hl 1 rfl) ?_
              refine zcv (wr := [(hN9, .inl (cI, 128, .inl NM9_21)), (hp, .inl (cI, 64, .inl PI9_22))]) (va_runV (As := [.int (nI j), .int (nI 2), .int (nI ((p.1 + (n - 1)) % n))]) (rest := []) ⟨hx, hb, hml, hown, hts⟩ (c_X6_lays1 l D cI cJ h hs fs (upd ((zsc S j p)) (8 + 4 * j + 3) (zheld (p.2 - zT len tk (fun i => S (32 + i)) (S 2) mi kd ((p.1 + (n - 1)) % n)) ((-9999)) (nI 9999))) j 2 (nI ((p.1 + (n - 1)) % n)) (by first | rfl | assumption | omega) (by first | rfl | assumption | omega) H.size) (cwV 3 hts gX6_goes_X6_lays1 rfl rfl rfl (by decide +kernel) ⟨Nat.le_of_ble_eq_true rfl, Nat.le_of_ble_eq_true rfl⟩) (zpV hK hN hZ hP hD hS hA [2, 3] rfl (by decide) 2 rfl rfl rfl) rfl rfl hl.1 rfl (lv_room (Nat.le_of_ble_eq_true rfl)) dX6_goes_101 ⟨Nat.zero_le _, Nat.zero_le _⟩) hP hD hS hA [2, 3] [0, 1] rfl rfl (by decide) (by decide) (fun w_26 H locs h_25 hP hD hS => ?_)
              obtain rfl := h_25
              have hP : va_P D vwCl [(hN9, .inl (cI, 128, .inl NM9_21)), (hp, .inl (cI, 64, .inl PI9_22)), (h, .inr (6, fs)), (hs, .inl (cI, 380, .inl (upd (upd ((zsc S j p)) (8 + 4 * j + 3) (zheld (p.2 - zT len tk (fun i => S (32 + i)) (S 2) mi kd ((p.1 + (n - 1)) % n)) ((-9999)) (nI 9999))) (8 + 4 * j + 2) (nI ((p.1 + (n - 1)) % n)))))] H := hP
              have hD : va_D AA [(hN9, .inl (cI, 128, .inl NM9_21)), (hp, .inl (cI, 64, .inl PI9_22)), (h, .inr (6, fs)), (hs, .inl (cI, 380, .inl (upd (upd ((zsc S j p)) (8 + 4 * j + 3) (zheld (p.2 - zT len tk (fun i => S (32 + i)) (S 2) mi kd ((p.1 + (n - 1)) % n)) ((-9999)) (nI 9999))) (8 + 4 * j + 2) (nI ((p.1 + (n - 1)) % n)))))] := hD
              refine lv_iload_n hx hb dX6_goes_104 rfl (lv_at hl 5 rfl) ?_
              refine lv_iload_n hx hb dX6_goes_105 rfl (lv_at hl 5 rfl) ?_
              refine lv_if_le (tgt := 113) hx hb dX6_goes_106 (by decide) (fun c106_27 => ?_) (fun c106_27 => ?_)
              · refine lv_iconst (v := nI 1) hx hb dX6_goes_113 (by decide) ?_
                refine lv_iadd hx hb dX6_goes_114 ?_
                refine zrw (zneg_s d9) ?_
                refine lv_istore_n (lv' := [(2, .int (nI 0 - nI d9)), (6, .int (-(zT len tk (fun i => S (32 + i)) (S 2) mi kd ((p.1 + (n - 1)) % n)))), (5, .int (nI ((p.1 + (n - 1)) % n))), (4, .int (nI p.1)), (0, .ref h), (1, .int (nI j)), (3, .int (nI n))]) hx hb dX6_goes_115 rfl hl (by decide) rfl (fun ls hl => ?_)
                refine lv_goto (tgt := 13) hx hb dX6_goes_116 (by decide) ?_
                rw [zsc_s] at hP hD
                exact ih_13   0 d9 (((p.1 + (n - 1)) % n, zheld (p.2 - zT len tk (fun i => S (32 + i)) (S 2) mi kd ((p.1 + (n - 1)) % n)) (-9999) 9999)) NM9_21 PI9_22 (by omega) (Or.inl rfl) (by omega) (by omega) (Nat.mod_lt _ (by omega)) hres ls (lv_sub hl [4, 5, 0, 6] rfl) H locs (hP.sub [2, 3, 0, 1] rfl) (hD.sub [2, 3, 0, 1] (by decide) rfl) hS
              · exact absurd c106_27 (by simp only [i_lt, i_le, i_eq, Int32.toInt_zero, hti]; omega)
            · exact absurd c49_17 (by simp only [i_lt, i_le, i_eq, Int32.toInt_zero, hti]; omega)
          · exact absurd c26_16 (by simp only [i_lt, i_le, i_eq, Int32.toInt_zero, hti]; omega)
  exact L_13 (zgu kd m mi + zgd kd m mi + 1)  (zgu kd m mi) (zgd kd m mi) ((a, S (8 + 4 * j + 3))) NM PI (by omega) hud0 hle0.1 hle0.2 han rfl ls (lv_sub hl [2, 3, 1, 0] rfl) _ _ hP hD hS
set_option maxHeartbeats 4000000 in
set_option maxRecDepth 100000 in
theorem c_X6_minute (l : Launch) (D : va_G) (cI cJ : ClassId) (h : Nat) (hs : Nat) (hN9 : Nat) (hp : Nat) (fs : List Value) (S : Nat → Int32) (NM : Nat → Int32) (PI : Nat → Int32) (n : Nat) (len : Nat) (tk : zTk) (k : Nat) (mi : Nat) (q : Nat) (hf0 : fs[0]? = some (.ref hs)) (hf10 : fs[10]? = some (.ref hN9)) (hf11 : fs[11]? = some (.ref hp)) (htx : zTX S 0 len tk) (hn1 : S 1 = nI n) (hk6 : S 6 = nI k) (hok : zOK (zDS S n len tk mi) k) (hq : q ≤ 600) : zMv l yX6_minute wsX6_minute ({ frames := 5, cells := 0, slots := 0, locals := 120 } : Room) D [(cI, .int), (cJ, .array .int)] [.ref h] [(h, .inr (6, fs)), (hs, .inl (cI, 380, .inl (zsm S (zDS S n len tk mi) k 0 q))), (hN9, .inl (cI, 128, .inl NM)), (hp, .inl (cI, 64, .inl PI))] (fun w => ∃ NM9 PI9 : Nat → Int32, w = [(h, .inr (6, fs)), (hs, .inl (cI, 380, .inl (zsm S (zDS S n len tk mi) k 0 (q + 1)))), (hN9, .inl (cI, 128, .inl NM9)), (hp, .inl (cI, 64, .inl PI9))]) := by
  refine zMv.start (cc := cX6_minute) (maxL := 2) (by first | decide | decide +kernel) rfl (Nat.le_of_ble_eq_true rfl) ?_
  intro pg ev s mt args below meth cd ls AA QQ ⟨hx, hb, hml, hr, hlocks, hown, hts, hK, hN, hZ, hP, hD, hA, hS, hl⟩ hret
  have hown : s.vm.findClass RX6 = some mt.cls := hown
  have hl : lv_has ls 2 [(0, .ref h)] := hl
  have hin6 : ∀ w ∈ wsX60, w ∈ wsX6_minute := fun w h => List.mem_cons_of_mem _ (List.mem_append_right _ (h))
  have hkle := hok.2.2.2.1
  have hmi9 : mi ≤ 9999 := hok.2.2.2.2.1
  refine lv_iconst (v := nI 0) hx hb dX6_minute_0 (by decide) ?_
  refine lv_istore_n (lv' := [(1, .int (nI 0)), (0, .ref h)]) hx hb dX6_minute_1 rfl hl (by decide) rfl (fun ls hl => ?_)
  have L_2 : ∀ (fu j : Nat) (NMv : Nat → Int32) (PIv : Nat → Int32) (hi : j ≤ k) (hn : k + 1 ≤ j + fu) , ∀ (ls : Array Slot), lv_has ls 2 [(0, .ref h), (1, .int (nI j))] → ∀ (H : Heap) (locs : List Loc), va_P D vwCl [(h, .inr (6, fs)), (hs, .inl (cI, 380, .inl (zsm S (zDS S n len tk mi) k j q))), (hN9, .inl (cI, 128, .inl NMv)), (hp, .inl (cI, 64, .inl PIv))] H → va_D AA [(h, .inr (6, fs)), (hs, .inl (cI, 380, .inl (zsm S (zDS S n len tk mi) k j q))), (hN9, .inl (cI, 128, .inl NMv)), (hp, .inl (cI, 64, .inl PIv))] → va_S AA s.heap H locs → W pg l ev ({ frames := 5, cells := 0, slots := 0, locals := 120 } : Room) s mt args below meth cd H locs 0 0 QQ (F0 mt 2 ls []) := by
    intro fu
    induction fu with
    | zero =>
      intro j NMv PIv hi hn
      exact absurd hn (by omega)
    | succ fu ih_2 =>
      intro j NMv PIv hi hn  ls hl H locs hP hD hS
      refine lv_iload_n hx hb dX6_minute_2 rfl (lv_at hl 1 rfl) ?_
      refine lv_aload_n hx hb dX6_minute_3 rfl (lv_at hl 0 rfl) ?_
      refine va_get (ci := 6) (v := .ref hs) (C := RX6) (T := TX6) (N := 20) hx hb hts hin6 hown hK hP 0 rfl rfl 0 (by decide) (hts (.fieldLink RX6 7 "UpAllRoundModel" "s" "[I") (List.mem_of_getElem? (i := 1) rfl)) (fun _ h9 => h9) hf0 dX6_minute_4 ?_
      refine lv_bipush (v := nI 6) hx hb dX6_minute_7 (by decide) ?_
      refine zald (t := 6) hx hb hK hP 1 rfl (by omega) (by decide) dX6_minute_9 ?_
      refine zrw (show zsm S (zDS S n len tk mi) k j q 6 = nI k from by rw [zsm_o (by omega) (by omega)]; exact hk6) ?_
      refine lv_icmp_ge (tgt := 24) hx hb dX6_minute_10 (by decide) (fun c10_1 => ?_) (fun c10_1 => ?_)
      · have c10_1 : k ≤ j := (nI_leI (a := k) (b := j) (by omega) (by omega)).mp c10_1
        refine lv_aload_n hx hb dX6_minute_24 rfl (lv_at hl 0 rfl) ?_
        refine va_get (ci := 6) (v := .ref hs) (C := RX6) (T := TX6) (N := 20) hx hb hts hin6 hown hK hP 0 rfl rfl 0 (by decide) (hts (.fieldLink RX6 7 "UpAllRoundModel" "s" "[I") (List.mem_of_getElem? (i := 1) rfl)) (fun _ h9 => h9) hf0 dX6_minute_25 ?_
        refine lv_iconst (v := nI 0) hx hb dX6_minute_28 (by decide) ?_
        refine lv_dup2_11 hx hb dX6_minute_29 rfl rfl ?_
        refine zald (t := 0) hx hb hK hP 1 rfl (by omega) (by decide) dX6_minute_30 ?_
        refine zrw (show zsm S (zDS S n len tk mi) k j q 0 = nI (mi + q) from zsm_0) ?_
        refine lv_iconst (v := nI 1) hx hb dX6_minute_31 (by decide) ?_
        refine lv_iadd hx hb dX6_minute_32 ?_
        refine zrw (nI_add _ _) ?_
        refine zast (t := 0) hx hb hK hP hD hS 1 rfl (by omega) (by decide) dX6_minute_33 (fun H locs hP hD hS => ?_)
        have hP : va_P D vwCl [(h, .inr (6, fs)), (hs, .inl (cI, 380, .inl (upd (zsm S (zDS S n len tk mi) k j q) 0 (nI ((mi + q) + 1))))), (hN9, .inl (cI, 128, .inl NMv)), (hp, .inl (cI, 64, .inl PIv))] H := hP
        have hD : va_D AA [(h, .inr (6, fs)), (hs, .inl (cI, 380, .inl (upd (zsm S (zDS S n len tk mi) k j q) 0 (nI ((mi + q) + 1))))), (hN9, .inl (cI, 128, .inl NMv)), (hp, .inl (cI, 64, .inl PIv))] := hD
        exact hret hP hD hS dX6_minute_34 (by refine ⟨NMv, PIv, ?_⟩; rw [show j = k from by omega, show upd (zsm S (zDS S n len tk mi) k k q) 0 (nI (mi + q + 1)) = zsm S (zDS S n len tk mi) k 0 (q + 1) from zsm_e])
      · have c10_1 : ¬ (k ≤ j) := fun h9 => c10_1 ((nI_leI (a := k) (b := j) (by omega) (by omega)).mpr h9)
        have hcl := hok.2.2.2.2.2 j (by omega)
        have hlt := zW_lt hok (show j < k by omega) q
        have hstep : zsc (zsm S (zDS S n len tk mi) k j q) j (zg1 n len tk (fun i => zsm S (zDS S n len tk mi) k j q (32 + i)) (zsm S (zDS S n len tk mi) k j q 2) (zkN (zDS S n len tk mi) j) (zmN (zDS S n len tk mi) j) (mi + q) ((zW (zDS S n len tk mi) j q).1, zsm S (zDS S n len tk mi) k j q (8 + 4 * j + 3))) = zsm S (zDS S n len tk mi) k (j + 1) q := by
          rw [← zsm_s (show j < k by omega), zsm_3 (show j < k by omega), if_neg (by omega), zW_s]
          unfold zg1
          rw [zT_sm hkle]
          rfl
        refine lv_aload_n hx hb dX6_minute_13 rfl (lv_at hl 0 rfl) ?_
        refine lv_iload_n hx hb dX6_minute_14 rfl (lv_at hl 1 rfl) ?_
        refine zcv (wr := []) (va_runV (As := [.int (nI j)]) (rest := []) ⟨hx, hb, hml, hown, hts⟩ (c_X6_goes l D cI cJ h hs hN9 hp fs (zsm S (zDS S n len tk mi) k j q) NMv PIv n len tk j (zkN (zDS S n len tk mi) j) (zmN (zDS S n len tk mi) j) (mi + q) ((zW (zDS S n len tk mi) j q).1) (by first | rfl | assumption | omega) (by first | rfl | assumption | omega) (by first | rfl | assumption | omega) (zTX_sm hkle htx) hok.2.2.1 (by rw [zsm_o (by omega) (by omega)]; exact hn1) hok.1 hok.2.1 (by first | rfl | assumption | omega) (by rw [zsm_o (by omega) (by omega)]; exact hcl.1) (by rw [zsm_o (by omega) (by omega)]; exact hcl.2.2.1) zsm_0 hcl.2.1 hcl.2.2.2.1 (by first | rfl | assumption | omega) (by rw [zsm_2 (by omega), if_neg (by omega)]) hlt H.size) (cwV 1 hts gX6_minute_X6_goes rfl rfl rfl (by decide +kernel) ⟨Nat.le_of_ble_eq_true rfl, Nat.le_of_ble_eq_true rfl⟩) (zpV hK hN hZ hP hD hS hA [0, 1, 2, 3] rfl (by decide) 0 rfl rfl rfl) rfl rfl hl.1 rfl (lv_room (Nat.le_of_ble_eq_true rfl)) dX6_minute_15 ⟨Nat.zero_le _, Nat.zero_le _⟩) hP hD hS hA [0, 1, 2, 3] [] rfl rfl (by decide) (by decide) (fun w_3 H locs h_2 hP hD hS => ?_)
        obtain ⟨NM9_4, PI9_5, rfl⟩ := h_2
        have hP : va_P D vwCl [(h, .inr (6, fs)), (hs, .inl (cI, 380, .inl (zsc (zsm S (zDS S n len tk mi) k j q) j (zg1 n len tk (fun i => (zsm S (zDS S n len tk mi) k j q) (32 + i)) ((zsm S (zDS S n len tk mi) k j q) 2) (zkN (zDS S n len tk mi) j) (zmN (zDS S n len tk mi) j) (mi + q) (((zW (zDS S n len tk mi) j q).1), (zsm S (zDS S n len tk mi) k j q) (8 + 4 * j + 3)))))), (hN9, .inl (cI, 128, .inl NM9_4)), (hp, .inl (cI, 64, .inl PI9_5))] H := hP
        have hD : va_D AA [(h, .inr (6, fs)), (hs, .inl (cI, 380, .inl (zsc (zsm S (zDS S n len tk mi) k j q) j (zg1 n len tk (fun i => (zsm S (zDS S n len tk mi) k j q) (32 + i)) ((zsm S (zDS S n len tk mi) k j q) 2) (zkN (zDS S n len tk mi) j) (zmN (zDS S n len tk mi) j) (mi + q) (((zW (zDS S n len tk mi) j q).1), (zsm S (zDS S n len tk mi) k j q) (8 + 4 * j + 3)))))), (hN9, .inl (cI, 128, .inl NM9_4)), (hp, .inl (cI, 64, .inl PI9_5))] := hD
        rw [hstep] at hP hD
        refine lv_iinc (v := nI (j + 1)) (lv' := [(1, .int (nI (j + 1))), (0, .ref h)]) hx hb dX6_minute_18 hl (k := 1) rfl (nI_add _ _) (by decide) rfl (fun ls hl => ?_)
        refine lv_goto (tgt := 2) hx hb dX6_minute_21 (by decide) ?_
        exact ih_2  (j + 1) NM9_4 PI9_5 (by omega) (by omega)  ls (lv_sub hl [1, 0] rfl) H locs hP hD hS
  exact L_2 (k + 1) 0 NM PI (by omega) (by omega)  ls (lv_sub hl [1, 0] rfl) _ _ hP hD hS
