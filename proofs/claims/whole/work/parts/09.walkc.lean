/-- behind q minutes, climbers below j one more: places and heights of the class -/
def zPm (d : zDt) (k j q : Nat) : Nat → Int32 := fun c => if c < k then nI (zW d c (if c < j then q + 1 else q)).1 else d.2.2.2.2.2.2.2.1 c
def zGm (d : zDt) (k j q : Nat) : Nat → Int32 := fun c => if c < k then (zW d c (if c < j then q + 1 else q)).2 else zhN d c
theorem zPm_at {d : zDt} {k j q c : Nat} (h : c < k) : zPm d k j q c = nI (zW d c (if c < j then q + 1 else q)).1 := if_pos h
theorem zGm_at {d : zDt} {k j q c : Nat} (h : c < k) : zGm d k j q c = (zW d c (if c < j then q + 1 else q)).2 := if_pos h
theorem zPm_s {d : zDt} {k j q : Nat} (h : j < k) : upd (zPm d k j q) j (nI (zW d j (q + 1)).1) = zPm d k (j + 1) q := by
  funext c
  unfold upd zPm
  by_cases e : c = j
  · rw [if_pos e, if_pos (by omega), if_pos (by omega), e]
  · rw [if_neg e]
    by_cases h2 : c < k
    · rw [if_pos h2, if_pos h2]
      simp only [show (c < j ↔ c < j + 1) by omega]
    · rw [if_neg h2, if_neg h2]
theorem zGm_s {d : zDt} {k j q : Nat} (h : j < k) : upd (zGm d k j q) j (zW d j (q + 1)).2 = zGm d k (j + 1) q := by
  funext c
  unfold upd zGm
  by_cases e : c = j
  · rw [if_pos e, if_pos (by omega), if_pos (by omega), e]
  · rw [if_neg e]
    by_cases h2 : c < k
    · rw [if_pos h2, if_pos h2]
      simp only [show (c < j ↔ c < j + 1) by omega]
    · rw [if_neg h2, if_neg h2]
theorem zPm_e {d : zDt} {k q : Nat} : zPm d k k q = zPm d k 0 (q + 1) := by
  funext c
  unfold zPm
  by_cases h : c < k
  · rw [if_pos h, if_pos h, if_pos h, if_neg (by omega)]
  · rw [if_neg h, if_neg h]
theorem zGm_e {d : zDt} {k q : Nat} : zGm d k k q = zGm d k 0 (q + 1) := by
  funext c
  unfold zGm
  by_cases h : c < k
  · rw [if_pos h, if_pos h, if_pos h, if_neg (by omega)]
  · rw [if_neg h, if_neg h]
theorem zPm_start {d : zDt} {k : Nat} (h : zOK d k) : zPm d k 0 0 = d.2.2.2.2.2.2.2.1 := by
  funext c
  unfold zPm
  by_cases h2 : c < k
  · rw [if_pos h2, if_neg (by omega), zW_0]
    exact (h.2.2.2.2.2 c h2).2.2.2.2.1.symm
  · rw [if_neg h2]
theorem zGm_start {d : zDt} {k : Nat} : zGm d k 0 0 = zhN d := by
  funext c
  unfold zGm
  by_cases h2 : c < k
  · rw [if_pos h2, if_neg (by omega), zW_0]
  · rw [if_neg h2]
/-- one climber alone -/
def zP1 (d : zDt) (j q : Nat) : Nat → Int32 := upd d.2.2.2.2.2.2.2.1 j (nI (zW d j q).1)
def zG1 (d : zDt) (j q : Nat) : Nat → Int32 := upd (zhN d) j (zW d j q).2
theorem zP1_at {d : zDt} {j q : Nat} : zP1 d j q j = nI (zW d j q).1 := if_pos rfl
theorem zG1_at {d : zDt} {j q : Nat} : zG1 d j q j = (zW d j q).2 := if_pos rfl
theorem zP1_s {d : zDt} {j q : Nat} {x : Int32} : upd (zP1 d j q) j x = upd d.2.2.2.2.2.2.2.1 j x := by
  funext c
  unfold zP1 upd
  by_cases e : c = j
  · rw [if_pos e, if_pos e]
  · rw [if_neg e, if_neg e, if_neg e]
theorem zG1_s {d : zDt} {j q : Nat} {x : Int32} : upd (zG1 d j q) j x = upd (zhN d) j x := by
  funext c
  unfold zG1 upd
  by_cases e : c = j
  · rw [if_pos e, if_pos e]
  · rw [if_neg e, if_neg e, if_neg e]
theorem zP1_start {d : zDt} {j : Nat} (h : zCl d j) : zP1 d j 0 = d.2.2.2.2.2.2.2.1 := by
  funext c
  unfold zP1 upd
  by_cases e : c = j
  · rw [if_pos e, e, zW_0]; exact h.2.2.2.2.1.symm
  · rw [if_neg e]
theorem zG1_start {d : zDt} {j : Nat} : zG1 d j 0 = zhN d := by
  funext c
  unfold zG1 upd
  by_cases e : c = j
  · rw [if_pos e, e, zW_0]
  · rw [if_neg e]
theorem zmul_mod (n x : Nat) : ∀ k : Nat, (x + k * n) % n = x % n := fun k => Nat.add_mul_mod_self_right x k n
theorem zwu_1 {n : Nat} {T : Nat → Int32} : ∀ (q : Nat) (p : Nat × Int32), p.1 < n → (zwu n T q p).1 = (p.1 + q) % n := by
  intro q
  induction q with
  | zero => intro p h; exact (Nat.mod_eq_of_lt h).symm
  | succ q ih =>
    intro p h
    show (zwu n T q ((p.1 + 1) % n, _)).1 = _
    rw [ih _ (Nat.mod_lt _ (by omega))]
    show ((p.1 + 1) % n + q) % n = _
    rw [Nat.mod_add_mod, Nat.add_assoc, Nat.add_comm 1 q]
theorem zwd_1 {n : Nat} {T : Nat → Int32} : ∀ (q : Nat) (p : Nat × Int32), p.1 < n → (zwd n T q p).1 = (p.1 + q * (n - 1)) % n := by
  intro q
  induction q with
  | zero => intro p h; show p.1 = _; rw [Nat.zero_mul]; exact (Nat.mod_eq_of_lt h).symm
  | succ q ih =>
    intro p h
    show (zwd n T q ((p.1 + (n - 1)) % n, _)).1 = _
    rw [ih _ (Nat.mod_lt _ (by omega))]
    show ((p.1 + (n - 1)) % n + q * (n - 1)) % n = _
    rw [Nat.mod_add_mod, Nat.add_assoc, Nat.succ_mul, Nat.add_comm (n - 1)]
theorem zgd_le (kd m mi : Nat) : zgd kd m mi ≤ 4 := by
  unfold zgd
  have := Nat.mod_lt m (show 0 < 3 by decide)
  (repeat' split) <;> omega
/-- where a climber comes in a minute -/
theorem zg1_1 {n len : Nat} {tk : zTk} {R : Nat → Int32} {no : Int32} {kd m mi : Nat} {p : Nat × Int32} (h4 : 4 ≤ n) (hp : p.1 < n) : (zg1 n len tk R no kd m mi p).1 = (p.1 + zgu kd m mi + 4 - zgd kd m mi + (n - 4)) % n := by
  unfold zg1
  rw [zwd_1 _ _ (zwu_lt (by omega) _ _ hp), zwu_1 _ _ hp, Nat.mod_add_mod]
  have h := zgd_le kd m mi
  generalize zgd kd m mi = d at h ⊢
  generalize p.1 + zgu kd m mi = x
  have e : ∀ d, d ≤ 4 → (x + d * (n - 1)) % n = (x + 4 - d + (n - 4)) % n := by
    intro d hd
    rcases (show d = 0 ∨ d = 1 ∨ d = 2 ∨ d = 3 ∨ d = 4 by omega) with q | q | q | q | q <;> subst q
    · rw [show x + 4 - 0 + (n - 4) = x + 1 * n by omega, zmul_mod, Nat.zero_mul, Nat.add_zero]
    · rw [show x + 4 - 1 + (n - 4) = x + 1 * (n - 1) by omega]
    · rw [show x + 2 * (n - 1) = (x + 4 - 2 + (n - 4)) + 1 * n by omega, zmul_mod]
    · rw [show x + 3 * (n - 1) = (x + 4 - 3 + (n - 4)) + 2 * n by omega, zmul_mod]
    · rw [show x + 4 * (n - 1) = (x + 4 - 4 + (n - 4)) + 3 * n by omega, zmul_mod]
  exact e d h

theorem zneg_inc (i : Nat) : -nI i + Int32.ofInt (-1) = -nI (i + 1) := by
  rw [show nI (i + 1) = nI i + nI 1 from (nI_add _ _).symm, Int32.neg_add, Int32.sub_eq_add_neg]
  rfl
theorem zsgn_cmp (v : Int32) : (if v < nI 0 then -1 else if v = nI 0 then 0 else 1) = zsgn v := by
  unfold zsgn
  rw [show nI 0 = 0 from rfl]
  simp only [i_lt, i_eq, Int32.toInt_zero]
  (repeat' split) <;> first | rfl | (exfalso; omega)
theorem zgoes_up (kd m mi : Nat) (hm : m < 10) : ¬ nI (zgu kd m mi) < zgoes kd m mi := by
  have h := zgo_le (kd := kd) (mi := mi) hm
  have e : (zgoes kd m mi).toInt = (zgu kd m mi : Int) - zgd kd m mi := pk_sub_toInt (by omega) (by omega)
  rw [i_lt, e, nI_toInt (by omega)]
  omega
theorem zgoes_dn (kd m mi : Nat) (hm : m < 10) : -nI (zgd kd m mi) ≤ zgoes kd m mi := by
  have h := zgo_le (kd := kd) (mi := mi) hm
  have e : (zgoes kd m mi).toInt = (zgu kd m mi : Int) - zgd kd m mi := pk_sub_toInt (by omega) (by omega)
  rw [i_le, e, sb_negT (by omega)]
  omega
set_option maxHeartbeats 4000000 in
set_option maxRecDepth 100000 in
theorem c_J6_compare_7cf53 (l : Launch) (D : va_G) (cI cJ : ClassId) (x : Int32) (y : Int32)  : zSi l yJ6_compare_7cf53 wsJ6_compare_7cf53 ({ frames := 0, cells := 0, slots := 0, locals := 0 } : Room) D [(cI, .int), (cJ, .array .int)] [.int x, .int y] [] (fun r => r = (if x < y then -1 else if x = y then 0 else 1)) := by
  refine zSi.start (cc := cJ6_compare_7cf53) (maxL := 2) (rt := .int) (by first | decide | decide +kernel) rfl (Nat.le_of_ble_eq_true rfl) ?_
  intro pg ev s mt args below meth cd ls AA QQ ⟨hx, hb, hml, hr, hlocks, hown, hts, hK, hN, hZ, hP, hD, hA, hS, hl⟩ hret
  have hown : s.vm.findClass RJ6 = some mt.cls := hown
  have hl : lv_has ls 2 [(0, .int x), (1, .int y)] := hl
  refine lv_iload_n hx hb dJ6_compare_7cf53_0 rfl (lv_at hl 0 rfl) ?_
  refine lv_iload_n hx hb dJ6_compare_7cf53_1 rfl (lv_at hl 1 rfl) ?_
  refine lv_icmp_ge (tgt := 9) hx hb dJ6_compare_7cf53_2 (by decide) (fun c2_1 => ?_) (fun c2_1 => ?_)
  · refine lv_iload_n hx hb dJ6_compare_7cf53_9 rfl (lv_at hl 0 rfl) ?_
    refine lv_iload_n hx hb dJ6_compare_7cf53_10 rfl (lv_at hl 1 rfl) ?_
    refine lv_icmp_ne (tgt := 18) hx hb dJ6_compare_7cf53_11 (by decide) (fun c11_2 => ?_) (fun c11_2 => ?_)
    · refine lv_iconst (v := nI 1) hx hb dJ6_compare_7cf53_18 (by decide) ?_
      exact hret dJ6_compare_7cf53_19 rfl (by rw [if_neg (by simp only [i_lt, i_le] at c2_1 ⊢; omega), if_neg c11_2]; rfl)
    · refine lv_iconst (v := nI 0) hx hb dJ6_compare_7cf53_14 (by decide) ?_
      refine lv_goto (tgt := 19) hx hb dJ6_compare_7cf53_15 (by decide) ?_
      exact hret dJ6_compare_7cf53_19 rfl (by rw [if_neg (by simp only [i_lt, i_le] at c2_1 ⊢; omega), if_pos c11_2]; rfl)
  · refine lv_iconst (v := (-1)) hx hb dJ6_compare_7cf53_5 (by decide) ?_
    refine lv_goto (tgt := 19) hx hb dJ6_compare_7cf53_6 (by decide) ?_
    exact hret dJ6_compare_7cf53_19 rfl (by rw [if_pos (by simp only [i_lt, i_le] at c2_1 ⊢; omega)])
set_option maxHeartbeats 4000000 in
set_option maxRecDepth 100000 in
theorem c_J9_floorMod_7cf53 (l : Launch) (D : va_G) (cI cJ : ClassId) (a : Nat) (n : Nat) (ha : a < 28) (h4 : 4 ≤ n) (hn : n < 15) : zSi l yJ9_floorMod_7cf53 wsJ9_floorMod_7cf53 ({ frames := 0, cells := 0, slots := 0, locals := 0 } : Room) D [(cI, .int), (cJ, .array .int)] [.int ((nI a - nI 4)), .int (nI n)] [] (fun r => r = nI ((a + (n - 4)) % n)) := by
  refine zSi.start (cc := cJ9_floorMod_7cf53) (maxL := 3) (rt := .int) (by first | decide | decide +kernel) rfl (Nat.le_of_ble_eq_true rfl) ?_
  intro pg ev s mt args below meth cd ls AA QQ ⟨hx, hb, hml, hr, hlocks, hown, hts, hK, hN, hZ, hP, hD, hA, hS, hl⟩ hret
  have hown : s.vm.findClass RJ9 = some mt.cls := hown
  have hl : lv_has ls 3 [(0, .int ((nI a - nI 4))), (1, .int (nI n))] := hl
  refine lv_iload_n hx hb dJ9_floorMod_7cf53_0 rfl (lv_at hl 0 rfl) ?_
  refine lv_iload_n hx hb dJ9_floorMod_7cf53_1 rfl (lv_at hl 1 rfl) ?_
  refine lv_irem hx hb dJ9_floorMod_7cf53_2 (nI_ne0 (by omega) (by omega)) ?_
  refine lv_istore_n (lv' := [(2, .int (((nI a - nI 4)) - ((nI a - nI 4)) / (nI n) * (nI n))), (0, .int ((nI a - nI 4))), (1, .int (nI n))]) hx hb dJ9_floorMod_7cf53_3 rfl hl (by decide) rfl (fun ls hl => ?_)
  refine lv_iload_n hx hb dJ9_floorMod_7cf53_4 rfl (lv_at hl 1 rfl) ?_
  refine lv_iload_n hx hb dJ9_floorMod_7cf53_5 rfl (lv_at hl 2 rfl) ?_
  refine lv_ixor hx hb dJ9_floorMod_7cf53_6 ?_
  refine lv_if_ge (tgt := 18) hx hb dJ9_floorMod_7cf53_7 (by decide) (fun c7_1 => ?_) (fun c7_1 => ?_)
  · refine lv_iload_n hx hb dJ9_floorMod_7cf53_18 rfl (lv_at hl 0 rfl) ?_
    exact hret dJ9_floorMod_7cf53_19 rfl (by exact (zfm_x ha hn h4).1 (Or.inl c7_1))
  · refine lv_iload_n hx hb dJ9_floorMod_7cf53_10 rfl (lv_at hl 0 rfl) ?_
    refine lv_if_eq (tgt := 18) hx hb dJ9_floorMod_7cf53_11 (by decide) (fun c11_2 => ?_) (fun c11_2 => ?_)
    · refine lv_iload_n hx hb dJ9_floorMod_7cf53_18 rfl (lv_at hl 0 rfl) ?_
      exact hret dJ9_floorMod_7cf53_19 rfl (by exact (zfm_x ha hn h4).1 (Or.inr c11_2))
    · refine lv_iload_n hx hb dJ9_floorMod_7cf53_14 rfl (lv_at hl 0 rfl) ?_
      refine lv_iload_n hx hb dJ9_floorMod_7cf53_15 rfl (lv_at hl 2 rfl) ?_
      refine lv_iadd hx hb dJ9_floorMod_7cf53_16 ?_
      exact hret dJ9_floorMod_7cf53_17 rfl (by exact (zfm_x ha hn h4).2.resolve_left (fun h9 => h9.elim c7_1 c11_2))
set_option maxHeartbeats 4000000 in
set_option maxRecDepth 100000 in
theorem c_X3_ring (l : Launch) (D : va_G) (cI cJ : ClassId) (h : Nat) (fs : List Value) (n : Nat) (a : Nat) (hf0 : fs[0]? = some (.int (nI n))) (ha : a < 28) (h4 : 4 ≤ n) (hn : n < 15) : zSi l yX3_ring wsX3_ring ({ frames := 1, cells := 0, slots := 0, locals := 22 } : Room) D [(cI, .int), (cJ, .array .int)] [.ref h, .int ((nI a - nI 4))] [(h, .inr (3, fs))] (fun r => r = nI ((a + (n - 4)) % n)) := by
  refine zSi.start (cc := cX3_ring) (maxL := 2) (rt := .int) (by first | decide | decide +kernel) rfl (Nat.le_of_ble_eq_true rfl) ?_
  intro pg ev s mt args below meth cd ls AA QQ ⟨hx, hb, hml, hr, hlocks, hown, hts, hK, hN, hZ, hP, hD, hA, hS, hl⟩ hret
  have hown : s.vm.findClass RX3 = some mt.cls := hown
  have hl : lv_has ls 2 [(0, .ref h), (1, .int ((nI a - nI 4)))] := hl
  have hin3 : ∀ w ∈ wsX30, w ∈ wsX3_ring := fun w h => List.mem_cons_of_mem _ (List.mem_append_right _ (h))
  refine lv_aload_n hx hb dX3_ring_0 rfl (lv_at hl 0 rfl) ?_
  refine va_get (ci := 3) (v := .int (nI n)) (C := RX3) (T := TX3) (N := 16) hx hb hts hin3 hown hK hP 0 rfl rfl 0 (by decide) (hts (.fieldLink RX3 63 "UpAllRound$Stair" "steps" "I") (List.mem_of_getElem? (i := 1) rfl)) (fun _ h9 => h9) hf0 dX3_ring_1 ?_
  refine lv_if_le (tgt := 18) hx hb dX3_ring_4 (by decide) (fun c4_1 => ?_) (fun c4_1 => ?_)
  · have c4_1 : n ≤ 0 := (nI_leI (a := n) (b := 0) (by omega) (by omega)).mp c4_1
    exact absurd c4_1 (by omega)
  · have c4_1 : ¬ (n ≤ 0) := fun h9 => c4_1 ((nI_leI (a := n) (b := 0) (by omega) (by omega)).mpr h9)
    refine lv_iload_n hx hb dX3_ring_7 rfl (lv_at hl 1 rfl) ?_
    refine lv_aload_n hx hb dX3_ring_8 rfl (lv_at hl 0 rfl) ?_
    refine va_get (ci := 3) (v := .int (nI n)) (C := RX3) (T := TX3) (N := 16) hx hb hts hin3 hown hK hP 0 rfl rfl 0 (by decide) (hts (.fieldLink RX3 63 "UpAllRound$Stair" "steps" "I") (List.mem_of_getElem? (i := 1) rfl)) (fun _ h9 => h9) hf0 dX3_ring_9 ?_
    refine zcsE (va_runS (As := [.int ((nI a - nI 4)), .int (nI n)]) (rest := []) ⟨hx, hb, hml, hown, hts⟩ (c_J9_floorMod_7cf53 l D cI cJ a n (by first | rfl | assumption | omega) (by first | rfl | assumption | omega) (by first | rfl | assumption | omega) s.heap.size) (va_cwS 2 hts gX3_ring_J9_floorMod_7cf53 rfl rfl rfl (by decide +kernel) ⟨Nat.le_of_ble_eq_true rfl, Nat.le_of_ble_eq_true rfl⟩) (zpS hK hN hZ hP hD hS hA [] rfl (by decide)) rfl rfl hl.1 rfl (lv_room (Nat.le_of_ble_eq_true rfl)) dX3_ring_12 ⟨Nat.zero_le _, Nat.zero_le _⟩) ?_
    refine lv_goto (tgt := 19) hx hb dX3_ring_15 (by decide) ?_
    exact hret dX3_ring_19 rfl (by rfl)
set_option maxHeartbeats 4000000 in
set_option maxRecDepth 100000 in
theorem c_X3_tally (l : Launch) (D : va_G) (cI cJ : ClassId) (h : Nat) (hk : Nat) (hr9 : Nat) (hw : Nat) (hc : Nat) (hst : Nat) (fs : List Value) (KD : Nat → Int32) (R0 : Nat → Int32) (C : Nat → Int32) (ST : Nat → Int32) (len : Nat) (tk : zTk) (no : Int32) (mi : Nat) (j : Nat) (kd : Nat) (k : Nat) (hf5 : fs[5]? = some (.ref hk)) (hf1 : fs[1]? = some (.ref hr9)) (hf2 : fs[2]? = some (.int no)) (hf3 : fs[3]? = some (.int (nI mi))) (hf9 : fs[9]? = some (.ref hw)) (hcd : zCD C len tk) (hwf : zWF len tk) (hj : j < 6) (hk14 : k < 14) (hkd : KD j = nI kd) (hkd7 : kd < 7) : zMi l yX3_tally wsX3_tally ({ frames := 3, cells := 0, slots := 0, locals := 71 } : Room) D [(cI, .int), (cJ, .array .int)] [.ref h, .int (nI j), .int (nI k)] [(h, .inr (3, fs)), (hk, .inl (cI, 6, .inl KD)), (hr9, .inl (cI, 14, .inl R0)), (hw, .inr (0, [.ref hc, .int (nI len), .ref hst])), (hc, .inl (cI, 60, .inl C)), (hst, .inl (cI, 60, .inl ST))] (fun r w => ∃ ST9 : Nat → Int32, r = zT len tk R0 no mi kd k ∧ w = [(h, .inr (3, fs)), (hk, .inl (cI, 6, .inl KD)), (hr9, .inl (cI, 14, .inl R0)), (hw, .inr (0, [.ref hc, .int (nI len), .ref hst])), (hc, .inl (cI, 60, .inl C)), (hst, .inl (cI, 60, .inl ST9))]) := by
  refine zMi.start (cc := cX3_tally) (maxL := 5) (rt := .int) (by first | decide | decide +kernel) rfl (Nat.le_of_ble_eq_true rfl) ?_
  intro pg ev s mt args below meth cd ls AA QQ ⟨hx, hb, hml, hr, hlocks, hown, hts, hK, hN, hZ, hP, hD, hA, hS, hl⟩ hret
  have hown : s.vm.findClass RX3 = some mt.cls := hown
  have hl : lv_has ls 5 [(0, .ref h), (1, .int (nI j)), (2, .int (nI k))] := hl
  have hin0 : ∀ w ∈ wsX00, w ∈ wsX3_tally := fun w h => List.mem_cons_of_mem _ (List.mem_append_right _ (h))
  have hin3 : ∀ w ∈ wsX30, w ∈ wsX3_tally := fun w h => List.mem_cons_of_mem _ (List.mem_append_left _ (List.mem_append_right _ (h)))
  refine lv_aload_n hx hb dX3_tally_0 rfl (lv_at hl 0 rfl) ?_
  refine va_get (ci := 3) (v := .ref hk) (C := RX3) (T := TX3) (N := 16) hx hb hts hin3 hown hK hP 0 rfl rfl 5 (by decide) (hts (.fieldLink RX3 22 "UpAllRound$Stair" "kinds" "[I") (List.mem_of_getElem? (i := 1) rfl)) (fun _ h9 => h9) hf5 dX3_tally_1 ?_
  refine lv_iload_n hx hb dX3_tally_4 rfl (lv_at hl 1 rfl) ?_
  refine zald (t := j) hx hb hK hP 1 rfl (by omega) (by decide) dX3_tally_5 ?_
  refine zrw hkd ?_
  refine lv_istore_n (lv' := [(3, .int (nI kd)), (0, .ref h), (1, .int (nI j)), (2, .int (nI k))]) hx hb dX3_tally_6 rfl hl (by decide) rfl (fun ls hl => ?_)
  refine lv_iload_n hx hb dX3_tally_7 rfl (lv_at hl 3 rfl) ?_
  refine lv_aload_n hx hb dX3_tally_8 rfl (lv_at hl 1 rfl) ?_
  refine va_get (ci := 3) (v := .int no) (C := RX3) (T := TX3) (N := 16) hx hb hts hin3 hown hK hP 0 rfl rfl 2 (by decide) (hts (.fieldLink RX3 66 "UpAllRound$Stair" "none" "I") (List.mem_of_getElem? (i := 2) rfl)) (fun _ h9 => h9) hf2 dX3_tally_9 ?_
  refine lv_icmp_eq (tgt := 21) hx hb dX3_tally_12 (by decide) (fun c12_1 => ?_) (fun c12_1 => ?_)
  · refine lv_iconst (v := nI 0) hx hb dX3_tally_21 (by decide) ?_
    exact hret hP hD hS dX3_tally_22 rfl (by refine ⟨_, ?_, rfl⟩; show _ = ztal kd no k _; rw [ztal, if_pos (Or.inl c12_1)]; rfl)
  · refine lv_iload_n hx hb dX3_tally_15 rfl (lv_at hl 0 rfl) ?_
    refine lv_bipush (v := nI 6) hx hb dX3_tally_16 (by decide) ?_
    refine lv_icmp_ne (tgt := 23) hx hb dX3_tally_18 (by decide) (fun c18_2 => ?_) (fun c18_2 => ?_)
    · have c18_2 : ¬ (kd = 6) := fun h9 => c18_2 ((nI_eq (a := kd) (b := 6) (by omega) (by omega)).mpr h9)
      refine lv_aload_n hx hb dX3_tally_23 rfl (lv_at hl 1 rfl) ?_
      refine lv_aload_n hx hb dX3_tally_24 rfl (lv_at hl 1 rfl) ?_
      refine va_get (ci := 3) (v := .ref hr9) (C := RX3) (T := TX3) (N := 16) hx hb hts hin3 hown hK hP 0 rfl rfl 1 (by decide) (hts (.fieldLink RX3 9 "UpAllRound$Stair" "rises" "[I") (List.mem_of_getElem? (i := 3) rfl)) (fun _ h9 => h9) hf1 dX3_tally_25 ?_
      refine lv_iload_n hx hb dX3_tally_28 rfl (lv_at hl 3 rfl) ?_
      refine zald (t := k) hx hb hK hP 2 rfl (by omega) (by decide) dX3_tally_29 ?_
      refine lv_iload_n hx hb dX3_tally_30 rfl (lv_at hl 3 rfl) ?_
      refine lv_aload_n hx hb dX3_tally_31 rfl (lv_at hl 1 rfl) ?_
      refine va_get (ci := 3) (v := .int (nI mi)) (C := RX3) (T := TX3) (N := 16) hx hb hts hin3 hown hK hP 0 rfl rfl 3 (by decide) (hts (.fieldLink RX3 15 "UpAllRound$Stair" "minute" "I") (List.mem_of_getElem? (i := 4) rfl)) (fun _ h9 => h9) hf3 dX3_tally_32 ?_
      refine zci (wr := [(hk, .inl (cI, 6, .inl KD)), (hr9, .inl (cI, 14, .inl R0))]) (va_runV (As := [.int (R0 k), .int (nI k), .int (nI mi)]) (rest := []) ⟨hx, hb, hml, hown, hts⟩ (c_X3_countedOf l D cI cJ h hw hc hst fs C ST len tk (R0 k) (nI k) (nI mi) (by first | rfl | assumption | omega) (by first | rfl | assumption | omega) (by first | rfl | assumption | omega) s.heap.size) (cwV 3 hts gX3_tally_X3_countedOf rfl rfl rfl (by decide +kernel) ⟨Nat.le_of_ble_eq_true rfl, Nat.le_of_ble_eq_true rfl⟩) (zpV hK hN hZ hP hD hS hA [0, 3, 4, 5] rfl (by decide) 0 rfl rfl rfl) rfl rfl hl.1 rfl (lv_room (Nat.le_of_ble_eq_true rfl)) dX3_tally_35 ⟨Nat.zero_le _, Nat.zero_le _⟩) hP hD hS hA [0, 3, 4, 5] [1, 2] rfl rfl (by decide) (by decide) (fun r_5 w_4 H locs h_3 hP hD hS => ?_)
      obtain ⟨ST9_6, rfl, rfl⟩ := h_3
      have hP : va_P D vwCl [(hk, .inl (cI, 6, .inl KD)), (hr9, .inl (cI, 14, .inl R0)), (h, .inr (3, fs)), (hw, .inr (0, [.ref hc, .int (nI len), .ref hst])), (hc, .inl (cI, 60, .inl C)), (hst, .inl (cI, 60, .inl ST9_6))] H := hP
      have hD : va_D AA [(hk, .inl (cI, 6, .inl KD)), (hr9, .inl (cI, 14, .inl R0)), (h, .inr (3, fs)), (hw, .inr (0, [.ref hc, .int (nI len), .ref hst])), (hc, .inl (cI, 60, .inl C)), (hst, .inl (cI, 60, .inl ST9_6))] := hD
      refine lv_topi (fun v ev => ?_)
      refine lv_istore (lv' := [(4, .int v), (3, .int (nI kd)), (0, .ref h), (1, .int (nI j)), (2, .int (nI k))]) hx hb dX3_tally_38 hl (by decide) rfl (fun ls hl => ?_)
      refine lv_iload_n hx hb dX3_tally_40 rfl (lv_at hl 1 rfl) ?_
      by_cases k41_7 : kd = 4
      · refine lv_lookup (off := 27) (tgt := 68) hx hb dX3_tally_41 (by decide) (by rw [k41_7]; decide) (by decide) ?_
        refine lv_iload hx hb dX3_tally_68 (lv_at hl 0 rfl) ?_
        refine lv_iconst (v := nI 0) hx hb dX3_tally_70 (by decide) ?_
        refine zcsE (va_runS (As := [.int v, .int (nI 0)]) (rest := []) ⟨hx, hb, hml, hown, hts⟩ (c_J6_compare_7cf53 l D cI cJ v (nI 0)  H.size) (va_cwS 2 hts gX3_tally_J6_compare_7cf53 rfl rfl rfl (by decide +kernel) ⟨Nat.le_of_ble_eq_true rfl, Nat.le_of_ble_eq_true rfl⟩) (zpS hK hN hZ hP hD hS hA [] rfl (by decide)) rfl rfl hl.1 rfl (lv_room (Nat.le_of_ble_eq_true rfl)) dX3_tally_71 ⟨Nat.zero_le _, Nat.zero_le _⟩) ?_
        have hP := hP.sub (ws' := [(h, .inr (3, fs)), (hk, .inl (cI, 6, .inl KD)), (hr9, .inl (cI, 14, .inl R0)), (hw, .inr (0, [.ref hc, .int (nI len), .ref hst])), (hc, .inl (cI, 60, .inl C)), (hst, .inl (cI, 60, .inl ST9_6))]) [2, 0, 1, 3, 4, 5] rfl
        have hD := hD.sub (ws' := [(h, .inr (3, fs)), (hk, .inl (cI, 6, .inl KD)), (hr9, .inl (cI, 14, .inl R0)), (hw, .inr (0, [.ref hc, .int (nI len), .ref hst])), (hc, .inl (cI, 60, .inl C)), (hst, .inl (cI, 60, .inl ST9_6))]) [2, 0, 1, 3, 4, 5] (by decide) rfl
        exact hret hP hD hS dX3_tally_74 rfl (by refine ⟨_, ?_, rfl⟩; show _ = ztal kd no k _; rw [ztal, if_neg (show ¬ (nI k = no ∨ kd = 6) from fun h9 => h9.elim c12_1 (by omega)), ← ev]; rw [if_pos (show kd = 4 by omega)]; exact zsgn_cmp v)
      by_cases k41_8 : kd = 5
      · refine lv_lookup (off := 34) (tgt := 75) hx hb dX3_tally_41 (by decide) (by rw [k41_8]; decide) (by decide) ?_
        refine lv_iconst (v := nI 2) hx hb dX3_tally_75 (by decide) ?_
        refine lv_iload hx hb dX3_tally_76 (lv_at hl 0 rfl) ?_
        refine lv_imul hx hb dX3_tally_78 ?_
        have hP := hP.sub (ws' := [(h, .inr (3, fs)), (hk, .inl (cI, 6, .inl KD)), (hr9, .inl (cI, 14, .inl R0)), (hw, .inr (0, [.ref hc, .int (nI len), .ref hst])), (hc, .inl (cI, 60, .inl C)), (hst, .inl (cI, 60, .inl ST9_6))]) [2, 0, 1, 3, 4, 5] rfl
        have hD := hD.sub (ws' := [(h, .inr (3, fs)), (hk, .inl (cI, 6, .inl KD)), (hr9, .inl (cI, 14, .inl R0)), (hw, .inr (0, [.ref hc, .int (nI len), .ref hst])), (hc, .inl (cI, 60, .inl C)), (hst, .inl (cI, 60, .inl ST9_6))]) [2, 0, 1, 3, 4, 5] (by decide) rfl
        exact hret hP hD hS dX3_tally_79 rfl (by refine ⟨_, ?_, rfl⟩; show _ = ztal kd no k _; rw [ztal, if_neg (show ¬ (nI k = no ∨ kd = 6) from fun h9 => h9.elim c12_1 (by omega)), ← ev]; rw [if_neg (by omega), if_pos (by omega)])
      refine lv_lookup (off := 39) (tgt := 80) hx hb dX3_tally_41 (by decide) ((lv_osw (k := nI 4) (fun h9 => k41_7 ((nI_eq (by omega) (by omega)).mp h9)) (by decide)).trans ((lv_osw (k := nI 5) (fun h9 => k41_8 ((nI_eq (by omega) (by omega)).mp h9)) (by decide)).trans rfl)) (by decide) ?_
      refine lv_iload hx hb dX3_tally_80 (lv_at hl 0 rfl) ?_
      have hP := hP.sub (ws' := [(h, .inr (3, fs)), (hk, .inl (cI, 6, .inl KD)), (hr9, .inl (cI, 14, .inl R0)), (hw, .inr (0, [.ref hc, .int (nI len), .ref hst])), (hc, .inl (cI, 60, .inl C)), (hst, .inl (cI, 60, .inl ST9_6))]) [2, 0, 1, 3, 4, 5] rfl
      have hD := hD.sub (ws' := [(h, .inr (3, fs)), (hk, .inl (cI, 6, .inl KD)), (hr9, .inl (cI, 14, .inl R0)), (hw, .inr (0, [.ref hc, .int (nI len), .ref hst])), (hc, .inl (cI, 60, .inl C)), (hst, .inl (cI, 60, .inl ST9_6))]) [2, 0, 1, 3, 4, 5] (by decide) rfl
      exact hret hP hD hS dX3_tally_82 rfl (by refine ⟨_, ?_, rfl⟩; show _ = ztal kd no k _; rw [ztal, if_neg (show ¬ (nI k = no ∨ kd = 6) from fun h9 => h9.elim c12_1 (by omega)), ← ev]; rw [if_neg (by omega), if_neg (by omega)])
    · have c18_2 : kd = 6 := (nI_eq (a := kd) (b := 6) (by omega) (by omega)).mp c18_2
      refine lv_iconst (v := nI 0) hx hb dX3_tally_21 (by decide) ?_
      exact hret hP hD hS dX3_tally_22 rfl (by refine ⟨_, ?_, rfl⟩; show _ = ztal kd no k _; rw [ztal, if_pos (Or.inr (by omega))]; rfl)
set_option maxHeartbeats 4000000 in
set_option maxRecDepth 100000 in
theorem c_X3_go (l : Launch) (D : va_G) (cI cJ : ClassId) (h : Nat) (hk : Nat) (hm : Nat) (hp : Nat) (hh : Nat) (hr9 : Nat) (hw : Nat) (hc : Nat) (hst : Nat) (fs : List Value) (KD : Nat → Int32) (MM : Nat → Int32) (P : Nat → Int32) (G : Nat → Int32) (R0 : Nat → Int32) (C : Nat → Int32) (ST : Nat → Int32) (n : Nat) (len : Nat) (tk : zTk) (no : Int32) (mi : Nat) (j : Nat) (kd : Nat) (m : Nat) (a : Nat) (hf0 : fs[0]? = some (.int (nI n))) (hf6 : fs[6]? = some (.ref hm)) (hf7 : fs[7]? = some (.ref hp)) (hf8 : fs[8]? = some (.ref hh)) (hf5 : fs[5]? = some (.ref hk)) (hf1 : fs[1]? = some (.ref hr9)) (hf2 : fs[2]? = some (.int no)) (hf3 : fs[3]? = some (.int (nI mi))) (hf9 : fs[9]? = some (.ref hw)) (hcd : zCD C len tk) (hwf : zWF len tk) (hj : j < 6) (hn4 : 4 ≤ n) (hn14 : n ≤ 14) (hkd : KD j = nI kd) (hmm : MM j = nI m) (hkd7 : kd < 7) (hm10 : m < 10) (hmi2 : mi < 20000) (ha2 : P j = nI a) (han : a < n) : zMv l yX3_go wsX3_go ({ frames := 4, cells := 0, slots := 0, locals := 95 } : Room) D [(cI, .int), (cJ, .array .int)] [.ref h, .int (nI j)] [(h, .inr (3, fs)), (hk, .inl (cI, 6, .inl KD)), (hm, .inl (cI, 6, .inl MM)), (hp, .inl (cI, 6, .inl P)), (hh, .inl (cI, 6, .inl G)), (hr9, .inl (cI, 14, .inl R0)), (hw, .inr (0, [.ref hc, .int (nI len), .ref hst])), (hc, .inl (cI, 60, .inl C)), (hst, .inl (cI, 60, .inl ST))] (fun w => ∃ ST9 : Nat → Int32, w = [(h, .inr (3, fs)), (hk, .inl (cI, 6, .inl KD)), (hm, .inl (cI, 6, .inl MM)), (hp, .inl (cI, 6, .inl (upd P j (nI (zg1 n len tk R0 no kd m mi (a, G j)).1)))), (hh, .inl (cI, 6, .inl (upd G j (zg1 n len tk R0 no kd m mi (a, G j)).2))), (hr9, .inl (cI, 14, .inl R0)), (hw, .inr (0, [.ref hc, .int (nI len), .ref hst])), (hc, .inl (cI, 60, .inl C)), (hst, .inl (cI, 60, .inl ST9))]) := by
  refine zMv.start (cc := cX3_go) (maxL := 6) (by first | decide | decide +kernel) rfl (Nat.le_of_ble_eq_true rfl) ?_
  intro pg ev s mt args below meth cd ls AA QQ ⟨hx, hb, hml, hr, hlocks, hown, hts, hK, hN, hZ, hP, hD, hA, hS, hl⟩ hret
  have hown : s.vm.findClass RX3 = some mt.cls := hown
  have hl : lv_has ls 6 [(0, .ref h), (1, .int (nI j))] := hl
  have hin0 : ∀ w ∈ wsX00, w ∈ wsX3_go := fun w h => List.mem_cons_of_mem _ (List.mem_append_right _ (h))
  have hin3 : ∀ w ∈ wsX30, w ∈ wsX3_go := fun w h => List.mem_cons_of_mem _ (List.mem_append_left _ (List.mem_append_right _ (h)))
  refine lv_aload_n hx hb dX3_go_0 rfl (lv_at hl 0 rfl) ?_
  refine lv_iload_n hx hb dX3_go_1 rfl (lv_at hl 1 rfl) ?_
  refine zcsE (va_runV (As := [.int (nI j)]) (rest := []) ⟨hx, hb, hml, hown, hts⟩ (c_X3_goes l D cI cJ h hk hm fs KD MM j kd m mi (by first | rfl | assumption | omega) (by first | rfl | assumption | omega) (by first | rfl | assumption | omega) (by first | rfl | assumption | omega) (by first | rfl | assumption | omega) (by first | rfl | assumption | omega) (by first | rfl | assumption | omega) (by first | rfl | assumption | omega) (by first | rfl | assumption | omega) s.heap.size) (cwV 1 hts gX3_go_X3_goes rfl rfl rfl (by decide +kernel) ⟨Nat.le_of_ble_eq_true rfl, Nat.le_of_ble_eq_true rfl⟩) (zpV hK hN hZ hP hD hS hA [0, 1, 2] rfl (by decide) 0 rfl rfl rfl) rfl rfl hl.1 rfl (lv_room (Nat.le_of_ble_eq_true rfl)) dX3_go_2 ⟨Nat.zero_le _, Nat.zero_le _⟩) ?_
  refine lv_istore_n (lv' := [(2, .int (zgoes kd m mi)), (0, .ref h), (1, .int (nI j))]) hx hb dX3_go_5 rfl hl (by decide) rfl (fun ls hl => ?_)
  refine lv_aload_n hx hb dX3_go_6 rfl (lv_at hl 1 rfl) ?_
  refine va_get (ci := 3) (v := .ref hp) (C := RX3) (T := TX3) (N := 16) hx hb hts hin3 hown hK hP 0 rfl rfl 7 (by decide) (hts (.fieldLink RX3 28 "UpAllRound$Stair" "places" "[I") (List.mem_of_getElem? (i := 1) rfl)) (fun _ h9 => h9) hf7 dX3_go_7 ?_
  refine lv_iload_n hx hb dX3_go_10 rfl (lv_at hl 2 rfl) ?_
  refine zald (t := j) hx hb hK hP 3 rfl (by omega) (by decide) dX3_go_11 ?_
  refine zrw ha2 ?_
  refine lv_istore_n (lv' := [(3, .int (nI a)), (2, .int (zgoes kd m mi)), (0, .ref h), (1, .int (nI j))]) hx hb dX3_go_12 rfl hl (by decide) rfl (fun ls hl => ?_)
  refine lv_aload_n hx hb dX3_go_13 rfl (lv_at hl 2 rfl) ?_
  refine va_get (ci := 3) (v := .ref hh) (C := RX3) (T := TX3) (N := 16) hx hb hts hin3 hown hK hP 0 rfl rfl 8 (by decide) (hts (.fieldLink RX3 31 "UpAllRound$Stair" "heights" "[I") (List.mem_of_getElem? (i := 2) rfl)) (fun _ h9 => h9) hf8 dX3_go_14 ?_
  refine lv_iload_n hx hb dX3_go_17 rfl (lv_at hl 3 rfl) ?_
  refine zald (t := j) hx hb hK hP 4 rfl (by omega) (by decide) dX3_go_18 ?_
  refine lv_istore (lv' := [(4, .int (G j)), (3, .int (nI a)), (2, .int (zgoes kd m mi)), (0, .ref h), (1, .int (nI j))]) hx hb dX3_go_19 hl (by decide) rfl (fun ls hl => ?_)
  refine lv_iconst (v := nI 0) hx hb dX3_go_21 (by decide) ?_
  refine lv_istore (lv' := [(5, .int (nI 0)), (4, .int (G j)), (3, .int (nI a)), (2, .int (zgoes kd m mi)), (0, .ref h), (1, .int (nI j))]) hx hb dX3_go_22 hl (by decide) rfl (fun ls hl => ?_)
  have hud0 := zgo_one kd m mi
  have hle0 := zgo_le (kd := kd) (mi := mi) hm10
  have L_24 : ∀ (fu : Nat) (u : Nat) (i : Nat) (p : Nat × Int32) (STv : Nat → Int32) (hn : u < fu) (hiu : i + u = zgu kd m mi) (hpn : p.1 < n) (hres : zwu n (zT len tk R0 no mi kd) u p = zwu n (zT len tk R0 no mi kd) (zgu kd m mi) (a, G j)), ∀ (ls : Array Slot), lv_has ls 6 [(0, .ref h), (1, .int (nI j)), (2, .int (zgoes kd m mi)), (3, .int (nI p.1)), (4, .int p.2), (5, .int (nI i))] → ∀ (H : Heap) (locs : List Loc), va_P D vwCl [(h, .inr (3, fs)), (hk, .inl (cI, 6, .inl KD)), (hm, .inl (cI, 6, .inl MM)), (hp, .inl (cI, 6, .inl P)), (hh, .inl (cI, 6, .inl G)), (hr9, .inl (cI, 14, .inl R0)), (hw, .inr (0, [.ref hc, .int (nI len), .ref hst])), (hc, .inl (cI, 60, .inl C)), (hst, .inl (cI, 60, .inl STv))] H → va_D AA [(h, .inr (3, fs)), (hk, .inl (cI, 6, .inl KD)), (hm, .inl (cI, 6, .inl MM)), (hp, .inl (cI, 6, .inl P)), (hh, .inl (cI, 6, .inl G)), (hr9, .inl (cI, 14, .inl R0)), (hw, .inr (0, [.ref hc, .int (nI len), .ref hst])), (hc, .inl (cI, 60, .inl C)), (hst, .inl (cI, 60, .inl STv))] → va_S AA s.heap H locs → W pg l ev ({ frames := 4, cells := 0, slots := 0, locals := 95 } : Room) s mt args below meth cd H locs 0 0 QQ (F0 mt 24 ls []) := by
    intro fu
    induction fu with
    | zero =>
      intro  u i p STv  hn
      exact absurd hn (by omega)
    | succ fu ih_24 =>
      intro  u i p STv  hn hiu hpn hres ls hl H locs hP hD hS
      rcases u with _ | u9
      · have hnn : ¬ nI i < zgoes kd m mi := by rw [show i = zgu kd m mi by omega]; exact zgoes_up kd m mi hm10
        have hnn : zgoes kd m mi ≤ nI i := by simp only [i_lt, i_le] at hnn ⊢; omega
        refine lv_iload hx hb dX3_go_24 (lv_at hl 5 rfl) ?_
        refine lv_iload_n hx hb dX3_go_26 rfl (lv_at hl 2 rfl) ?_
        refine lv_icmp_ge (tgt := 64) hx hb dX3_go_27 (by decide) (fun c27_1 => ?_) (fun c27_1 => ?_)
        · refine lv_iconst (v := nI 0) hx hb dX3_go_64 (by decide) ?_
          refine lv_istore (lv' := [(5, .int (nI 0)), (0, .ref h), (1, .int (nI j)), (2, .int (zgoes kd m mi)), (3, .int (nI p.1)), (4, .int p.2)]) hx hb dX3_go_65 hl (by decide) rfl (fun ls hl => ?_)
          rw [show nI 0 = -nI 0 from rfl] at hl
          have L_67 : ∀ (fu : Nat) (d : Nat) (i : Nat) (p2 : Nat × Int32) (STw : Nat → Int32) (hn : d < fu) (hid : i + d = zgd kd m mi) (hpn2 : p2.1 < n) (hres2 : zwd n (zT len tk R0 no mi kd) d p2 = zg1 n len tk R0 no kd m mi (a, G j)), ∀ (ls : Array Slot), lv_has ls 6 [(0, .ref h), (1, .int (nI j)), (2, .int (zgoes kd m mi)), (3, .int (nI p2.1)), (4, .int p2.2), (5, .int (-nI i))] → ∀ (H : Heap) (locs : List Loc), va_P D vwCl [(h, .inr (3, fs)), (hk, .inl (cI, 6, .inl KD)), (hm, .inl (cI, 6, .inl MM)), (hp, .inl (cI, 6, .inl P)), (hh, .inl (cI, 6, .inl G)), (hr9, .inl (cI, 14, .inl R0)), (hw, .inr (0, [.ref hc, .int (nI len), .ref hst])), (hc, .inl (cI, 60, .inl C)), (hst, .inl (cI, 60, .inl STw))] H → va_D AA [(h, .inr (3, fs)), (hk, .inl (cI, 6, .inl KD)), (hm, .inl (cI, 6, .inl MM)), (hp, .inl (cI, 6, .inl P)), (hh, .inl (cI, 6, .inl G)), (hr9, .inl (cI, 14, .inl R0)), (hw, .inr (0, [.ref hc, .int (nI len), .ref hst])), (hc, .inl (cI, 60, .inl C)), (hst, .inl (cI, 60, .inl STw))] → va_S AA s.heap H locs → W pg l ev ({ frames := 4, cells := 0, slots := 0, locals := 95 } : Room) s mt args below meth cd H locs 0 0 QQ (F0 mt 67 ls []) := by
            intro fu
            induction fu with
            | zero =>
              intro  d i p2 STw  hn
              exact absurd hn (by omega)
            | succ fu ih_67 =>
              intro  d i p2 STw  hn hid hpn2 hres2 ls hl H locs hP hD hS
              rcases d with _ | d9
              · have hnn : -nI i ≤ zgoes kd m mi := by rw [show i = zgd kd m mi by omega]; exact zgoes_dn kd m mi hm10
                refine lv_iload hx hb dX3_go_67 (lv_at hl 5 rfl) ?_
                refine lv_iload_n hx hb dX3_go_69 rfl (lv_at hl 2 rfl) ?_
                refine lv_icmp_le (tgt := 107) hx hb dX3_go_70 (by decide) (fun c70_2 => ?_) (fun c70_2 => ?_)
                · refine lv_aload_n hx hb dX3_go_107 rfl (lv_at hl 0 rfl) ?_
                  refine va_get (ci := 3) (v := .ref hp) (C := RX3) (T := TX3) (N := 16) hx hb hts hin3 hown hK hP 0 rfl rfl 7 (by decide) (hts (.fieldLink RX3 28 "UpAllRound$Stair" "places" "[I") (List.mem_of_getElem? (i := 1) rfl)) (fun _ h9 => h9) hf7 dX3_go_108 ?_
                  refine lv_iload_n hx hb dX3_go_111 rfl (lv_at hl 1 rfl) ?_
                  refine lv_iload_n hx hb dX3_go_112 rfl (lv_at hl 3 rfl) ?_
                  refine zast (t := j) hx hb hK hP hD hS 3 rfl (by omega) (by decide) dX3_go_113 (fun H locs hP hD hS => ?_)
                  have hP : va_P D vwCl [(h, .inr (3, fs)), (hk, .inl (cI, 6, .inl KD)), (hm, .inl (cI, 6, .inl MM)), (hp, .inl (cI, 6, .inl (upd P j (nI p2.1)))), (hh, .inl (cI, 6, .inl G)), (hr9, .inl (cI, 14, .inl R0)), (hw, .inr (0, [.ref hc, .int (nI len), .ref hst])), (hc, .inl (cI, 60, .inl C)), (hst, .inl (cI, 60, .inl STw))] H := hP
                  have hD : va_D AA [(h, .inr (3, fs)), (hk, .inl (cI, 6, .inl KD)), (hm, .inl (cI, 6, .inl MM)), (hp, .inl (cI, 6, .inl (upd P j (nI p2.1)))), (hh, .inl (cI, 6, .inl G)), (hr9, .inl (cI, 14, .inl R0)), (hw, .inr (0, [.ref hc, .int (nI len), .ref hst])), (hc, .inl (cI, 60, .inl C)), (hst, .inl (cI, 60, .inl STw))] := hD
                  refine lv_aload_n hx hb dX3_go_114 rfl (lv_at hl 0 rfl) ?_
                  refine va_get (ci := 3) (v := .ref hh) (C := RX3) (T := TX3) (N := 16) hx hb hts hin3 hown hK hP 0 rfl rfl 8 (by decide) (hts (.fieldLink RX3 31 "UpAllRound$Stair" "heights" "[I") (List.mem_of_getElem? (i := 2) rfl)) (fun _ h9 => h9) hf8 dX3_go_115 ?_
                  refine lv_iload_n hx hb dX3_go_118 rfl (lv_at hl 1 rfl) ?_
                  refine lv_iload hx hb dX3_go_119 (lv_at hl 4 rfl) ?_
                  refine zast (t := j) hx hb hK hP hD hS 4 rfl (by omega) (by decide) dX3_go_121 (fun H locs hP hD hS => ?_)
                  have hP : va_P D vwCl [(h, .inr (3, fs)), (hk, .inl (cI, 6, .inl KD)), (hm, .inl (cI, 6, .inl MM)), (hp, .inl (cI, 6, .inl (upd P j (nI p2.1)))), (hh, .inl (cI, 6, .inl (upd G j p2.2))), (hr9, .inl (cI, 14, .inl R0)), (hw, .inr (0, [.ref hc, .int (nI len), .ref hst])), (hc, .inl (cI, 60, .inl C)), (hst, .inl (cI, 60, .inl STw))] H := hP
                  have hD : va_D AA [(h, .inr (3, fs)), (hk, .inl (cI, 6, .inl KD)), (hm, .inl (cI, 6, .inl MM)), (hp, .inl (cI, 6, .inl (upd P j (nI p2.1)))), (hh, .inl (cI, 6, .inl (upd G j p2.2))), (hr9, .inl (cI, 14, .inl R0)), (hw, .inr (0, [.ref hc, .int (nI len), .ref hst])), (hc, .inl (cI, 60, .inl C)), (hst, .inl (cI, 60, .inl STw))] := hD
                  exact hret hP hD hS dX3_go_122 (by refine ⟨STw, ?_⟩; rw [← hres2]; rfl)
                · exact absurd hnn c70_2
              · have hu0 : zgu kd m mi = 0 := by omega
                have hgz : zgoes kd m mi = -nI (zgd kd m mi) := by rw [zgoes, hu0]; exact Int32.zero_sub _
                rw [hgz] at hl
                have hi9 : i + (d9 + 1) = zgd kd m mi := hid
                refine lv_iload hx hb dX3_go_67 (lv_at hl 5 rfl) ?_
                refine lv_iload_n hx hb dX3_go_69 rfl (lv_at hl 2 rfl) ?_
                refine lv_icmp_le (tgt := 107) hx hb dX3_go_70 (by decide) (fun c70_3 => ?_) (fun c70_3 => ?_)
                · exact absurd c70_3 (by simp only [i_le, sb_negT (show i < 2147483648 by omega), sb_negT (show zgd kd m mi < 2147483648 by omega)]; omega)
                · refine lv_aload_n hx hb dX3_go_73 rfl (lv_at hl 0 rfl) ?_
                  refine lv_iload_n hx hb dX3_go_74 rfl (lv_at hl 3 rfl) ?_
                  refine lv_iconst (v := nI 1) hx hb dX3_go_75 (by decide) ?_
                  refine lv_isub hx hb dX3_go_76 ?_
                  refine zrw (show nI p2.1 - nI 1 = nI (p2.1 + 3) - nI 4 from by rw [show nI (p2.1 + 3) = nI p2.1 + nI 3 from (nI_add _ _).symm, Int32.sub_eq_add_neg, Int32.sub_eq_add_neg, Int32.add_assoc]; rfl) ?_
                  refine zcsE (va_runV (As := [.int ((nI (p2.1 + 3) - nI 4))]) (rest := []) ⟨hx, hb, hml, hown, hts⟩ (c_X3_ring l D cI cJ h fs n ((p2.1 + 3)) (by first | rfl | assumption | omega) (by first | rfl | assumption | omega) (by first | rfl | assumption | omega) (by first | rfl | assumption | omega) H.size) (cwV 1 hts gX3_go_X3_ring rfl rfl rfl (by decide +kernel) ⟨Nat.le_of_ble_eq_true rfl, Nat.le_of_ble_eq_true rfl⟩) (zpV hK hN hZ hP hD hS hA [0] rfl (by decide) 0 rfl rfl rfl) rfl rfl hl.1 rfl (lv_room (Nat.le_of_ble_eq_true rfl)) dX3_go_77 ⟨Nat.zero_le _, Nat.zero_le _⟩) ?_
                  refine zrw (show nI ((p2.1 + 3 + (n - 4)) % n) = nI ((p2.1 + (n - 1)) % n) from by rw [show p2.1 + 3 + (n - 4) = p2.1 + (n - 1) by omega]) ?_
                  refine lv_istore_n (lv' := [(3, .int (nI ((p2.1 + (n - 1)) % n))), (0, .ref h), (1, .int (nI j)), (2, .int (-nI (zgd kd m mi))), (4, .int p2.2), (5, .int (-nI i))]) hx hb dX3_go_80 rfl hl (by decide) rfl (fun ls hl => ?_)
                  refine lv_iload hx hb dX3_go_81 (lv_at hl 4 rfl) ?_
                  refine lv_aload_n hx hb dX3_go_83 rfl (lv_at hl 1 rfl) ?_
                  refine lv_iload_n hx hb dX3_go_84 rfl (lv_at hl 2 rfl) ?_
                  refine lv_iload_n hx hb dX3_go_85 rfl (lv_at hl 0 rfl) ?_
                  refine zci (wr := [(hm, .inl (cI, 6, .inl MM)), (hp, .inl (cI, 6, .inl P)), (hh, .inl (cI, 6, .inl G))]) (va_runV (As := [.int (nI j), .int (nI ((p2.1 + (n - 1)) % n))]) (rest := [.int p2.2]) ⟨hx, hb, hml, hown, hts⟩ (c_X3_tally l D cI cJ h hk hr9 hw hc hst fs KD R0 C STw len tk no mi j kd ((p2.1 + (n - 1)) % n) (by first | rfl | assumption | omega) (by first | rfl | assumption | omega) (by first | rfl | assumption | omega) (by first | rfl | assumption | omega) (by first | rfl | assumption | omega) (by first | rfl | assumption | omega) (by first | rfl | assumption | omega) (by first | rfl | assumption | omega) (by have := Nat.mod_lt (p2.1 + (n - 1)) (show 0 < n by omega); omega) (by first | rfl | assumption | omega) (by first | rfl | assumption | omega) H.size) (cwV 2 hts gX3_go_X3_tally rfl rfl rfl (by decide +kernel) ⟨Nat.le_of_ble_eq_true rfl, Nat.le_of_ble_eq_true rfl⟩) (zpV hK hN hZ hP hD hS hA [0, 1, 5, 6, 7, 8] rfl (by decide) 0 rfl rfl rfl) rfl rfl hl.1 rfl (lv_room (Nat.le_of_ble_eq_true rfl)) dX3_go_86 ⟨Nat.zero_le _, Nat.zero_le _⟩) hP hD hS hA [0, 1, 5, 6, 7, 8] [2, 3, 4] rfl rfl (by decide) (by decide) (fun r_6 w_5 H locs h_4 hP hD hS => ?_)
                  obtain ⟨ST9_7, rfl, rfl⟩ := h_4
                  have hP : va_P D vwCl [(hm, .inl (cI, 6, .inl MM)), (hp, .inl (cI, 6, .inl P)), (hh, .inl (cI, 6, .inl G)), (h, .inr (3, fs)), (hk, .inl (cI, 6, .inl KD)), (hr9, .inl (cI, 14, .inl R0)), (hw, .inr (0, [.ref hc, .int (nI len), .ref hst])), (hc, .inl (cI, 60, .inl C)), (hst, .inl (cI, 60, .inl ST9_7))] H := hP
                  have hD : va_D AA [(hm, .inl (cI, 6, .inl MM)), (hp, .inl (cI, 6, .inl P)), (hh, .inl (cI, 6, .inl G)), (h, .inr (3, fs)), (hk, .inl (cI, 6, .inl KD)), (hr9, .inl (cI, 14, .inl R0)), (hw, .inr (0, [.ref hc, .int (nI len), .ref hst])), (hc, .inl (cI, 60, .inl C)), (hst, .inl (cI, 60, .inl ST9_7))] := hD
                  refine lv_isub hx hb dX3_go_89 ?_
                  refine lv_sipush (v := (-9999)) hx hb dX3_go_90 (by decide) ?_
                  refine lv_sipush (v := nI 9999) hx hb dX3_go_93 (by decide) ?_
                  refine zcsE (va_runSN (As := [.int (p2.2 - (zT len tk R0 no mi kd ((p2.1 + (n - 1)) % n))), .int ((-9999)), .int (nI 9999)]) (rest := []) ⟨hx, hb, hml, hown, hts⟩ (c_X5_held l D cI cJ (p2.2 - (zT len tk R0 no mi kd ((p2.1 + (n - 1)) % n))) ((-9999)) (nI 9999) (by decide) H.size) ⟨va_cnB 3 hts gX3_go_X5_held_n83 rfl rfl rfl (hN (.methodLinkNest "UpAllRound$Stair" 83 yX5_held "UpAllRound") (List.mem_of_getElem? (i := 46) rfl)) (hts (.initialized RX5) (List.mem_of_getElem? (i := 12) rfl)) (by decide +kernel) ⟨Nat.le_of_ble_eq_true rfl, Nat.le_of_ble_eq_true rfl⟩, (hts (.static yX5_held) (List.mem_of_getElem? (i := 38) rfl)), trivial⟩ (zpS hK hN hZ hP hD hS hA [] rfl (by decide)) rfl rfl hl.1 rfl (lv_room (Nat.le_of_ble_eq_true rfl)) dX3_go_96 ⟨Nat.zero_le _, Nat.zero_le _⟩) ?_
                  refine lv_istore (lv' := [(4, .int (zheld (p2.2 - (zT len tk R0 no mi kd ((p2.1 + (n - 1)) % n))) ((-9999)) (nI 9999))), (3, .int (nI ((p2.1 + (n - 1)) % n))), (0, .ref h), (1, .int (nI j)), (2, .int (-nI (zgd kd m mi))), (5, .int (-nI i))]) hx hb dX3_go_99 hl (by decide) rfl (fun ls hl => ?_)
                  refine lv_iinc (v := -nI (i + 1)) (lv' := [(5, .int (-nI (i + 1))), (4, .int (zheld (p2.2 - (zT len tk R0 no mi kd ((p2.1 + (n - 1)) % n))) ((-9999)) (nI 9999))), (3, .int (nI ((p2.1 + (n - 1)) % n))), (0, .ref h), (1, .int (nI j)), (2, .int (-nI (zgd kd m mi)))]) hx hb dX3_go_101 hl (k := 5) rfl (zneg_inc i) (by decide) rfl (fun ls hl => ?_)
                  refine lv_goto (tgt := 67) hx hb dX3_go_104 (by decide) ?_
                  rw [← hgz] at hl
                  exact ih_67   d9 (i + 1) (((p2.1 + (n - 1)) % n, zheld (p2.2 - zT len tk R0 no mi kd ((p2.1 + (n - 1)) % n)) (-9999) 9999)) ST9_7 (by omega) (by omega) (Nat.mod_lt _ (by omega)) hres2 ls (lv_sub hl [3, 4, 5, 2, 1, 0] rfl) H locs (hP.sub [3, 4, 0, 1, 2, 5, 6, 7, 8] rfl) (hD.sub [3, 4, 0, 1, 2, 5, 6, 7, 8] (by decide) rfl) hS
          exact L_67 (zgd kd m mi + 1)  (zgd kd m mi) 0 p STv (by omega) (Nat.zero_add _) hpn (by rw [show p = zwu n (zT len tk R0 no mi kd) (zgu kd m mi) (a, G j) from hres]; rfl) ls (lv_sub hl [1, 2, 3, 4, 5, 0] rfl) _ _ hP hD hS
        · exact absurd hnn c27_1
      · have hd0 : zgd kd m mi = 0 := by omega
        have hgz : zgoes kd m mi = nI (zgu kd m mi) := by rw [zgoes, hd0]; exact Int32.sub_zero _
        rw [hgz] at hl
        refine lv_iload hx hb dX3_go_24 (lv_at hl 5 rfl) ?_
        refine lv_iload_n hx hb dX3_go_26 rfl (lv_at hl 2 rfl) ?_
        refine lv_icmp_ge (tgt := 64) hx hb dX3_go_27 (by decide) (fun c27_8 => ?_) (fun c27_8 => ?_)
        · have c27_8 : (zgu kd m mi) ≤ i := (nI_leI (a := zgu kd m mi) (b := i) (by omega) (by omega)).mp c27_8
          exact absurd c27_8 (by omega)
        · have c27_8 : ¬ ((zgu kd m mi) ≤ i) := fun h9 => c27_8 ((nI_leI (a := zgu kd m mi) (b := i) (by omega) (by omega)).mpr h9)
          refine lv_iload hx hb dX3_go_30 (lv_at hl 4 rfl) ?_
          refine lv_aload_n hx hb dX3_go_32 rfl (lv_at hl 0 rfl) ?_
          refine lv_iload_n hx hb dX3_go_33 rfl (lv_at hl 1 rfl) ?_
          refine lv_iload_n hx hb dX3_go_34 rfl (lv_at hl 3 rfl) ?_
          refine zci (wr := [(hm, .inl (cI, 6, .inl MM)), (hp, .inl (cI, 6, .inl P)), (hh, .inl (cI, 6, .inl G))]) (va_runV (As := [.int (nI j), .int (nI p.1)]) (rest := [.int p.2]) ⟨hx, hb, hml, hown, hts⟩ (c_X3_tally l D cI cJ h hk hr9 hw hc hst fs KD R0 C STv len tk no mi j kd p.1 (by first | rfl | assumption | omega) (by first | rfl | assumption | omega) (by first | rfl | assumption | omega) (by first | rfl | assumption | omega) (by first | rfl | assumption | omega) (by first | rfl | assumption | omega) (by first | rfl | assumption | omega) (by first | rfl | assumption | omega) (by omega) (by first | rfl | assumption | omega) (by first | rfl | assumption | omega) H.size) (cwV 2 hts gX3_go_X3_tally rfl rfl rfl (by decide +kernel) ⟨Nat.le_of_ble_eq_true rfl, Nat.le_of_ble_eq_true rfl⟩) (zpV hK hN hZ hP hD hS hA [0, 1, 5, 6, 7, 8] rfl (by decide) 0 rfl rfl rfl) rfl rfl hl.1 rfl (lv_room (Nat.le_of_ble_eq_true rfl)) dX3_go_35 ⟨Nat.zero_le _, Nat.zero_le _⟩) hP hD hS hA [0, 1, 5, 6, 7, 8] [2, 3, 4] rfl rfl (by decide) (by decide) (fun r_11 w_10 H locs h_9 hP hD hS => ?_)
          obtain ⟨ST9_12, rfl, rfl⟩ := h_9
          have hP : va_P D vwCl [(hm, .inl (cI, 6, .inl MM)), (hp, .inl (cI, 6, .inl P)), (hh, .inl (cI, 6, .inl G)), (h, .inr (3, fs)), (hk, .inl (cI, 6, .inl KD)), (hr9, .inl (cI, 14, .inl R0)), (hw, .inr (0, [.ref hc, .int (nI len), .ref hst])), (hc, .inl (cI, 60, .inl C)), (hst, .inl (cI, 60, .inl ST9_12))] H := hP
          have hD : va_D AA [(hm, .inl (cI, 6, .inl MM)), (hp, .inl (cI, 6, .inl P)), (hh, .inl (cI, 6, .inl G)), (h, .inr (3, fs)), (hk, .inl (cI, 6, .inl KD)), (hr9, .inl (cI, 14, .inl R0)), (hw, .inr (0, [.ref hc, .int (nI len), .ref hst])), (hc, .inl (cI, 60, .inl C)), (hst, .inl (cI, 60, .inl ST9_12))] := hD
          refine lv_iadd hx hb dX3_go_38 ?_
          refine lv_sipush (v := (-9999)) hx hb dX3_go_39 (by decide) ?_
          refine lv_sipush (v := nI 9999) hx hb dX3_go_42 (by decide) ?_
          refine zcsE (va_runSN (As := [.int (p.2 + (zT len tk R0 no mi kd p.1)), .int ((-9999)), .int (nI 9999)]) (rest := []) ⟨hx, hb, hml, hown, hts⟩ (c_X5_held l D cI cJ (p.2 + (zT len tk R0 no mi kd p.1)) ((-9999)) (nI 9999) (by decide) H.size) ⟨va_cnB 3 hts gX3_go_X5_held_n83 rfl rfl rfl (hN (.methodLinkNest "UpAllRound$Stair" 83 yX5_held "UpAllRound") (List.mem_of_getElem? (i := 46) rfl)) (hts (.initialized RX5) (List.mem_of_getElem? (i := 12) rfl)) (by decide +kernel) ⟨Nat.le_of_ble_eq_true rfl, Nat.le_of_ble_eq_true rfl⟩, (hts (.static yX5_held) (List.mem_of_getElem? (i := 38) rfl)), trivial⟩ (zpS hK hN hZ hP hD hS hA [] rfl (by decide)) rfl rfl hl.1 rfl (lv_room (Nat.le_of_ble_eq_true rfl)) dX3_go_45 ⟨Nat.zero_le _, Nat.zero_le _⟩) ?_
          refine lv_istore (lv' := [(4, .int (zheld (p.2 + (zT len tk R0 no mi kd p.1)) ((-9999)) (nI 9999))), (0, .ref h), (1, .int (nI j)), (2, .int (nI (zgu kd m mi))), (3, .int (nI p.1)), (5, .int (nI i))]) hx hb dX3_go_48 hl (by decide) rfl (fun ls hl => ?_)
          refine lv_aload_n hx hb dX3_go_50 rfl (lv_at hl 1 rfl) ?_
          refine lv_iload_n hx hb dX3_go_51 rfl (lv_at hl 4 rfl) ?_
          refine lv_iconst (v := nI 1) hx hb dX3_go_52 (by decide) ?_
          refine lv_iadd hx hb dX3_go_53 ?_
          refine zrw (nI_add _ _) ?_
          refine zrw (show nI (p.1 + 1) = nI (p.1 + 5) - nI 4 from by rw [pk_sub (show 4 ≤ p.1 + 5 by omega), show p.1 + 5 - 4 = p.1 + 1 by omega]) ?_
          refine zcsE (va_runV (As := [.int ((nI (p.1 + 5) - nI 4))]) (rest := []) ⟨hx, hb, hml, hown, hts⟩ (c_X3_ring l D cI cJ h fs n ((p.1 + 5)) (by first | rfl | assumption | omega) (by first | rfl | assumption | omega) (by first | rfl | assumption | omega) (by first | rfl | assumption | omega) H.size) (cwV 1 hts gX3_go_X3_ring rfl rfl rfl (by decide +kernel) ⟨Nat.le_of_ble_eq_true rfl, Nat.le_of_ble_eq_true rfl⟩) (zpV hK hN hZ hP hD hS hA [3] rfl (by decide) 3 rfl rfl rfl) rfl rfl hl.1 rfl (lv_room (Nat.le_of_ble_eq_true rfl)) dX3_go_54 ⟨Nat.zero_le _, Nat.zero_le _⟩) ?_
          refine zrw (show nI ((p.1 + 5 + (n - 4)) % n) = nI ((p.1 + 1) % n) from by rw [show p.1 + 5 + (n - 4) = p.1 + 1 + n by omega, Nat.add_mod_right]) ?_
          refine lv_istore_n (lv' := [(3, .int (nI ((p.1 + 1) % n))), (4, .int (zheld (p.2 + (zT len tk R0 no mi kd p.1)) ((-9999)) (nI 9999))), (0, .ref h), (1, .int (nI j)), (2, .int (nI (zgu kd m mi))), (5, .int (nI i))]) hx hb dX3_go_57 rfl hl (by decide) rfl (fun ls hl => ?_)
          refine lv_iinc (v := nI (i + 1)) (lv' := [(5, .int (nI (i + 1))), (3, .int (nI ((p.1 + 1) % n))), (4, .int (zheld (p.2 + (zT len tk R0 no mi kd p.1)) ((-9999)) (nI 9999))), (0, .ref h), (1, .int (nI j)), (2, .int (nI (zgu kd m mi)))]) hx hb dX3_go_58 hl (k := 5) rfl (nI_add _ _) (by decide) rfl (fun ls hl => ?_)
          refine lv_goto (tgt := 24) hx hb dX3_go_61 (by decide) ?_
          rw [← hgz] at hl
          exact ih_24   u9 (i + 1) (((p.1 + 1) % n, zheld (p.2 + zT len tk R0 no mi kd p.1) (-9999) 9999)) ST9_12 (by omega) (by omega) (Nat.mod_lt _ (by omega)) hres ls (lv_sub hl [3, 4, 5, 1, 2, 0] rfl) H locs (hP.sub [3, 4, 0, 1, 2, 5, 6, 7, 8] rfl) (hD.sub [3, 4, 0, 1, 2, 5, 6, 7, 8] (by decide) rfl) hS
  exact L_24 (zgu kd m mi + 1)  (zgu kd m mi) 0 ((a, G j)) ST (by omega) (Nat.zero_add _) han rfl ls (lv_sub hl [4, 5, 3, 2, 1, 0] rfl) _ _ hP hD hS
