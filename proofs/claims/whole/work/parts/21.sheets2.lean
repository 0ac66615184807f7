
def zlk (BT : Nat → Int32) (v : Int32) : Nat := if zrg 0 3 v then (if BT v.toNatClampNeg = 0 then 2 else 0) else 1
theorem zlk_le (BT : Nat → Int32) (v : Int32) : zlk BT v ≤ 2 := by
  unfold zlk; (repeat' split) <;> omega
theorem zlk_0 {BT : Nat → Int32} {v : Int32} (h : zlk BT v = 0) : zrg 0 3 v ∧ ¬ BT v.toNatClampNeg = 0 := by
  unfold zlk at h
  by_cases h1 : zrg 0 3 v
  · rw [if_pos h1] at h
    by_cases h2 : BT v.toNatClampNeg = 0
    · rw [if_pos h2] at h; exact absurd h (by decide)
    · exact ⟨h1, h2⟩
  · rw [if_neg h1] at h; exact absurd h (by decide)
theorem zmin_i {a b : Nat} (ha : a < 2147483648) (hb : b < 2147483648) : (if nI b < nI a then nI b else nI a) = nI (min a b) := by
  by_cases h : b < a
  · rw [if_pos ((nI_ltI hb ha).mpr h), Nat.min_eq_right (by omega)]
  · rw [if_neg (fun q => h ((nI_ltI hb ha).mp q)), Nat.min_eq_left (by omega)]
def zri (S NU : Nat → Int32) (b m : Nat) : Nat → Int32 := fun x => if 32 ≤ x ∧ x < 32 + m then NU (b + (x - 32)) else S x
theorem zri_0 {S NU : Nat → Int32} {b : Nat} : zri S NU b 0 = S := by
  funext x; exact if_neg (by omega)
theorem zri_s {S NU : Nat → Int32} {b m : Nat} : upd (zri S NU b m) (32 + m) (NU (b + m)) = zri S NU b (m + 1) := by
  funext x; unfold upd zri
  by_cases h : x = 32 + m
  · subst h; rw [if_pos rfl, if_pos (by omega), show 32 + m - 32 = m by omega]
  · rw [if_neg h]
    by_cases h2 : 32 ≤ x ∧ x < 32 + m
    · rw [if_pos h2, if_pos (by omega)]
    · rw [if_neg h2, if_neg (by omega)]
abbrev zPri (NU : Nat → Int32) (b : Nat) : Nat → Prop := fun i => ¬ zrg (-9) 9 (NU (b + i))
abbrev zPju (S NU : Nat → Int32) (b : Nat) : Nat → Prop := fun i => ¬ S (8 + 4 * i + 2) = NU (b + i)
def zo_rises (S E : Nat → Int32) (n k : Nat) (BT SZ NU : Nat → Int32) (sh : Int32) : zOut := if zlk BT sh = 0 then (nI (zfind (zPri NU (24 * sh.toNatClampNeg)) (min (SZ sh.toNatClampNeg).toNatClampNeg n) 0), zri S NU (24 * sh.toNatClampNeg) (zfind (zPri NU (24 * sh.toNatClampNeg)) (min (SZ sh.toNatClampNeg).toNatClampNeg n) 0), E) else zerrE (zlk BT sh) S E
def zo_judge (S E : Nat → Int32) (n k : Nat) (BT SZ NU : Nat → Int32) (sh : Int32) : zOut := if zlk BT sh = 0 then (nI (zfind (zPju S NU (24 * sh.toNatClampNeg)) (min (SZ sh.toNatClampNeg).toNatClampNeg k) 0), S, E) else zerrE (zlk BT sh) S E
set_option maxHeartbeats 4000000 in
set_option maxRecDepth 100000 in
theorem c_X6_lacks (l : Launch) (D : va_G) (cI cJ : ClassId) (h : Nat) (fs : List Value) (hb9 : Nat) (BT : Nat → Int32) (v : Int32) (hf16 : fs[16]? = some (.ref hb9)) : zSi l yX6_lacks wsX6_lacks ({ frames := 2, cells := 0, slots := 0, locals := 42 } : Room) D [(cI, .int), (cJ, .array .int)] [.ref h, .int v] [(h, .inr (6, fs)), (hb9, .inl (cI, 4, .inl BT))] (fun r => r = nI ((zlk BT v))) := by
  refine zSi.start (cc := cX6_lacks) (maxL := 2) (rt := .int) (by first | decide | decide +kernel) rfl (Nat.le_of_ble_eq_true rfl) ?_
  intro pg ev s mt args below meth cd ls AA QQ ⟨hx, hb, hml, hr, hlocks, hown, hts, hK, hN, hZ, hP, hD, hA, hS, hl⟩ hret
  have hown : s.vm.findClass RX6 = some mt.cls := hown
  have hl : lv_has ls 2 [(0, .ref h), (1, .int v)] := hl
  have hin6 : ∀ w ∈ wsX60, w ∈ wsX6_lacks := fun w h => List.mem_cons_of_mem _ (List.mem_append_right _ (h))
  refine lv_iload_n hx hb dX6_lacks_0 rfl (lv_at hl 1 rfl) ?_
  refine zcsE (va_runS (As := [.int v]) (rest := []) ⟨hx, hb, hml, hown, hts⟩ (c_X6_isSheet l D cI cJ v  s.heap.size) (va_cwS 1 hts gX6_lacks_X6_isSheet rfl rfl rfl (by decide +kernel) ⟨Nat.le_of_ble_eq_true rfl, Nat.le_of_ble_eq_true rfl⟩) (zpS hK hN hZ hP hD hS hA [] rfl (by decide)) rfl rfl hl.1 rfl (lv_room (Nat.le_of_ble_eq_true rfl)) dX6_lacks_1 ⟨Nat.zero_le _, Nat.zero_le _⟩) ?_
  refine lv_if_ne (tgt := 11) hx hb dX6_lacks_4 (by decide) (fun c4_1 => ?_) (fun c4_1 => ?_)
  · have c4_1 := bI_n0.mp c4_1
    have hz9 := c4_1
    obtain ⟨q, h_q, rfl⟩ : ∃ q : Nat, q ≤ 3 ∧ v = nI q := zrg_of c4_1 (by decide)
    refine lv_aload_n hx hb dX6_lacks_11 rfl (lv_at hl 0 rfl) ?_
    refine va_get (ci := 6) (v := .ref hb9) (C := RX6) (T := TX6) (N := 20) hx hb hts hin6 hown hK hP 0 rfl rfl 16 (by decide) (hts (.fieldLink RX6 34 "UpAllRoundModel" "bits" "[I") (List.mem_of_getElem? (i := 1) rfl)) (fun _ h9 => h9) hf16 dX6_lacks_12 ?_
    refine lv_iload_n hx hb dX6_lacks_15 rfl (lv_at hl 1 rfl) ?_
    refine zald (t := q) hx hb hK hP 1 rfl (by omega) (by decide) dX6_lacks_16 ?_
    refine lv_if_ne (tgt := 24) hx hb dX6_lacks_17 (by decide) (fun c17_2 => ?_) (fun c17_2 => ?_)
    · refine lv_iconst (v := nI 0) hx hb dX6_lacks_24 (by decide) ?_
      exact hret dX6_lacks_25 rfl (by rw [zlk, if_pos hz9, nI_clamp (show q < 2147483648 by omega), if_neg (by assumption)])
    · refine lv_iconst (v := nI 2) hx hb dX6_lacks_20 (by decide) ?_
      refine lv_goto (tgt := 25) hx hb dX6_lacks_21 (by decide) ?_
      exact hret dX6_lacks_25 rfl (by rw [zlk, if_pos hz9, nI_clamp (show q < 2147483648 by omega), if_pos (by assumption)])
  · have c4_1 := bI_0.mp c4_1
    refine lv_iconst (v := nI 1) hx hb dX6_lacks_7 (by decide) ?_
    refine lv_goto (tgt := 25) hx hb dX6_lacks_8 (by decide) ?_
    exact hret dX6_lacks_25 rfl (by rw [zlk, if_neg (by assumption)])
set_option maxHeartbeats 4000000 in
set_option maxRecDepth 100000 in
theorem c_X6_rises (l : Launch) (D : va_G) (cI cJ : ClassId) (h : Nat) (hs : Nat) (hE : Nat) (fs : List Value) (S : Nat → Int32) (E : Nat → Int32) (n : Nat) (k : Nat) (hb9 : Nat) (hz9 : Nat) (hn9 : Nat) (BT : Nat → Int32) (SZ : Nat → Int32) (NU : Nat → Int32) (sh : Int32) (hf0 : fs[0]? = some (.ref hs)) (hf4 : fs[4]? = some (.ref hE)) (hn1 : S 1 = nI n) (hk6 : S 6 = nI k) (hn4 : 4 ≤ n) (hn14 : n ≤ 14) (hkle : k ≤ 6) (hf16 : fs[16]? = some (.ref hb9)) (hf17 : fs[17]? = some (.ref hz9)) (hf18 : fs[18]? = some (.ref hn9)) (hsz : ∀ i, i < 4 → ∃ m : Nat, SZ i = nI m ∧ m ≤ 24) : zMi l yX6_rises wsX6_rises ({ frames := 3, cells := 0, slots := 0, locals := 63 } : Room) D [(cI, .int), (cJ, .array .int)] [.ref h, .int sh] [(h, .inr (6, fs)), (hs, .inl (cI, 380, .inl S)), (hE, .inl (cI, 7, .inl E)), (hb9, .inl (cI, 4, .inl BT)), (hz9, .inl (cI, 4, .inl SZ)), (hn9, .inl (cI, 96, .inl NU))] (fun r w => r = (zo_rises S E n k BT SZ NU sh).1 ∧ w = [(h, .inr (6, fs)), (hs, .inl (cI, 380, .inl ((zo_rises S E n k BT SZ NU sh).2.1))), (hE, .inl (cI, 7, .inl ((zo_rises S E n k BT SZ NU sh).2.2))), (hb9, .inl (cI, 4, .inl BT)), (hz9, .inl (cI, 4, .inl SZ)), (hn9, .inl (cI, 96, .inl NU))]) := by
  refine zMi.start (cc := cX6_rises) (maxL := 4) (rt := .int) (by first | decide | decide +kernel) rfl (Nat.le_of_ble_eq_true rfl) ?_
  intro pg ev s mt args below meth cd ls AA QQ ⟨hx, hb, hml, hr, hlocks, hown, hts, hK, hN, hZ, hP, hD, hA, hS, hl⟩ hret
  have hown : s.vm.findClass RX6 = some mt.cls := hown
  have hl : lv_has ls 4 [(0, .ref h), (1, .int sh)] := hl
  have hin6 : ∀ w ∈ wsX60, w ∈ wsX6_rises := fun w h => List.mem_cons_of_mem _ (List.mem_append_right _ (h))
  refine lv_aload_n hx hb dX6_rises_0 rfl (lv_at hl 0 rfl) ?_
  refine lv_iload_n hx hb dX6_rises_1 rfl (lv_at hl 1 rfl) ?_
  refine zcsE (va_runV (As := [.int sh]) (rest := []) ⟨hx, hb, hml, hown, hts⟩ (c_X6_lacks l D cI cJ h fs hb9 BT sh (by first | rfl | assumption | omega) s.heap.size) (cwV 1 hts gX6_rises_X6_lacks rfl rfl rfl (by decide +kernel) ⟨Nat.le_of_ble_eq_true rfl, Nat.le_of_ble_eq_true rfl⟩) (zpV hK hN hZ hP hD hS hA [0, 3] rfl (by decide) 0 rfl rfl rfl) rfl rfl hl.1 rfl (lv_room (Nat.le_of_ble_eq_true rfl)) dX6_rises_2 ⟨Nat.zero_le _, Nat.zero_le _⟩) ?_
  refine lv_istore_n (lv' := [(2, .int (nI ((zlk BT sh)))), (0, .ref h), (1, .int sh)]) hx hb dX6_rises_5 rfl hl (by decide) rfl (fun ls hl => ?_)
  refine lv_iload_n hx hb dX6_rises_6 rfl (lv_at hl 0 rfl) ?_
  refine lv_if_eq (tgt := 16) hx hb dX6_rises_7 (by decide) (fun c7_1 => ?_) (fun c7_1 => ?_)
  · have c7_1 : ((zlk BT sh)) = 0 := (nI_eq (a := (zlk BT sh)) (b := 0) (by have h98 := zlk_le BT sh; omega) (by have h98 := zlk_le BT sh; omega)).mp c7_1
    have hz0 := c7_1
    obtain ⟨hz1, hz2⟩ := zlk_0 c7_1
    obtain ⟨q, h_q, rfl⟩ : ∃ q : Nat, q ≤ 3 ∧ sh = nI q := zrg_of hz1 (by decide)
    obtain ⟨m, hm, hm24⟩ := hsz q (by omega)
    refine lv_iconst (v := nI 0) hx hb dX6_rises_16 (by decide) ?_
    refine lv_istore_n (lv' := [(3, .int (nI 0)), (2, .int (nI ((zlk BT (nI q))))), (0, .ref h), (1, .int (nI q))]) hx hb dX6_rises_17 rfl hl (by decide) rfl (fun ls hl => ?_)
    have hP := zPx (i := 1) (g := zri S NU (24 * q) 0) hP rfl (fun j _ => (congrFun zri_0 j).symm)
    have hD := zDx (i := 1) (g := zri S NU (24 * q) 0) hD rfl
    have hP : va_P D vwCl [(h, .inr (6, fs)), (hs, .inl (cI, 380, .inl (zri S NU (24 * q) 0))), (hE, .inl (cI, 7, .inl E)), (hb9, .inl (cI, 4, .inl BT)), (hz9, .inl (cI, 4, .inl SZ)), (hn9, .inl (cI, 96, .inl NU))] s.heap := hP
    have hD : va_D AA [(h, .inr (6, fs)), (hs, .inl (cI, 380, .inl (zri S NU (24 * q) 0))), (hE, .inl (cI, 7, .inl E)), (hb9, .inl (cI, 4, .inl BT)), (hz9, .inl (cI, 4, .inl SZ)), (hn9, .inl (cI, 96, .inl NU))] := hD
    have L_18 : ∀ (fu i : Nat)  (hi : i ≤ m) (hn : m + 1 ≤ i + fu) (hib : i ≤ min m n) (hz : zfind (zPri NU (24 * q)) (min m n - i) i = zfind (zPri NU (24 * q)) (min m n) 0), ∀ (ls : Array Slot), lv_has ls 4 [(0, .ref h), (1, .int (nI q)), (2, .int (nI ((zlk BT (nI q))))), (3, .int (nI i))] → ∀ (H : Heap) (locs : List Loc), va_P D vwCl [(h, .inr (6, fs)), (hs, .inl (cI, 380, .inl (zri S NU (24 * q) i))), (hE, .inl (cI, 7, .inl E)), (hb9, .inl (cI, 4, .inl BT)), (hz9, .inl (cI, 4, .inl SZ)), (hn9, .inl (cI, 96, .inl NU))] H → va_D AA [(h, .inr (6, fs)), (hs, .inl (cI, 380, .inl (zri S NU (24 * q) i))), (hE, .inl (cI, 7, .inl E)), (hb9, .inl (cI, 4, .inl BT)), (hz9, .inl (cI, 4, .inl SZ)), (hn9, .inl (cI, 96, .inl NU))] → va_S AA s.heap H locs → W pg l ev ({ frames := 3, cells := 0, slots := 0, locals := 63 } : Room) s mt args below meth cd H locs 0 0 QQ (F0 mt 18 ls []) := by
      intro fu
      induction fu with
      | zero =>
        intro i  hi hn
        exact absurd hn (by omega)
      | succ fu ih_18 =>
        intro i  hi hn hib hz ls hl H locs hP hD hS
        refine lv_iload_n hx hb dX6_rises_18 rfl (lv_at hl 3 rfl) ?_
        refine lv_aload_n hx hb dX6_rises_19 rfl (lv_at hl 0 rfl) ?_
        refine va_get (ci := 6) (v := .ref hz9) (C := RX6) (T := TX6) (N := 20) hx hb hts hin6 hown hK hP 0 rfl rfl 17 (by decide) (hts (.fieldLink RX6 37 "UpAllRoundModel" "sizes" "[I") (List.mem_of_getElem? (i := 1) rfl)) (fun _ h9 => h9) hf17 dX6_rises_20 ?_
        refine lv_iload_n hx hb dX6_rises_23 rfl (lv_at hl 1 rfl) ?_
        refine zald (t := q) hx hb hK hP 4 rfl (by omega) (by decide) dX6_rises_24 ?_
        refine zrw hm ?_
        refine lv_icmp_ge (tgt := 83) hx hb dX6_rises_25 (by decide) (fun c25_2 => ?_) (fun c25_2 => ?_)
        · have c25_2 : m ≤ i := (nI_leI (a := m) (b := i) (by omega) (by omega)).mp c25_2
          refine lv_iload_n hx hb dX6_rises_83 rfl (lv_at hl 3 rfl) ?_
          exact hret hP hD hS dX6_rises_84 rfl (by (have hf : zfind (zPri NU (24 * q)) (min m n) 0 = i := (by (have hi9 : i = min m n := (by omega)); rw [← hz, show min m n - i = 0 by omega]; rfl)); rw [show zo_rises S E n k BT SZ NU (nI q) = (nI i, zri S NU (24 * q) i, E) from by rw [zo_rises, if_pos hz0, nI_clamp (show q < 2147483648 by omega), hm, nI_clamp (show m < 2147483648 by omega), hf]]; exact ⟨rfl, rfl⟩)
        · have c25_2 : ¬ (m ≤ i) := fun h9 => c25_2 ((nI_leI (a := m) (b := i) (by omega) (by omega)).mpr h9)
          refine lv_aload_n hx hb dX6_rises_28 rfl (lv_at hl 0 rfl) ?_
          refine lv_iload_n hx hb dX6_rises_29 rfl (lv_at hl 3 rfl) ?_
          refine zcsE (va_runV (As := [.int (nI i)]) (rest := []) ⟨hx, hb, hml, hown, hts⟩ (c_X6_isStep l D cI cJ h hs fs (zri S NU (24 * q) i) n (nI i) (by first | rfl | assumption | omega) (by rw [show zri S NU (24 * q) i 1 = S 1 from if_neg (by omega)]; exact hn1) (by first | rfl | assumption | omega) H.size) (cwV 1 hts gX6_rises_X6_isStep rfl rfl rfl (by decide +kernel) ⟨Nat.le_of_ble_eq_true rfl, Nat.le_of_ble_eq_true rfl⟩) (zpV hK hN hZ hP hD hS hA [0, 1] rfl (by decide) 0 rfl rfl rfl) rfl rfl hl.1 rfl (lv_room (Nat.le_of_ble_eq_true rfl)) dX6_rises_30 ⟨Nat.zero_le _, Nat.zero_le _⟩) ?_
          refine lv_if_eq (tgt := 83) hx hb dX6_rises_33 (by decide) (fun c33_3 => ?_) (fun c33_3 => ?_)
          · have c33_3 := bI_0.mp c33_3
            have h_i : ¬ i < n := fun h9 => c33_3 ((zin_nI (show i < 2147483648 by omega)).mpr h9)
            refine lv_iload_n hx hb dX6_rises_83 rfl (lv_at hl 3 rfl) ?_
            exact hret hP hD hS dX6_rises_84 rfl (by (have hf : zfind (zPri NU (24 * q)) (min m n) 0 = i := (by (have hi9 : i = min m n := (by omega)); rw [← hz, show min m n - i = 0 by omega]; rfl)); rw [show zo_rises S E n k BT SZ NU (nI q) = (nI i, zri S NU (24 * q) i, E) from by rw [zo_rises, if_pos hz0, nI_clamp (show q < 2147483648 by omega), hm, nI_clamp (show m < 2147483648 by omega), hf]]; exact ⟨rfl, rfl⟩)
          · have c33_3 := bI_n0.mp c33_3
            have h_i : i < n := (zin_nI (show i < 2147483648 by omega)).mp c33_3
            refine lv_aload_n hx hb dX6_rises_36 rfl (lv_at hl 0 rfl) ?_
            refine va_get (ci := 6) (v := .ref hn9) (C := RX6) (T := TX6) (N := 20) hx hb hts hin6 hown hK hP 0 rfl rfl 18 (by decide) (hts (.fieldLink RX6 40 "UpAllRoundModel" "number" "[I") (List.mem_of_getElem? (i := 2) rfl)) (fun _ h9 => h9) hf18 dX6_rises_37 ?_
            refine lv_bipush (v := nI 24) hx hb dX6_rises_40 (by decide) ?_
            refine lv_iload_n hx hb dX6_rises_42 rfl (lv_at hl 1 rfl) ?_
            refine lv_imul hx hb dX6_rises_43 ?_
            refine zrw (pk_mul _ _) ?_
            refine lv_iload_n hx hb dX6_rises_44 rfl (lv_at hl 3 rfl) ?_
            refine lv_iadd hx hb dX6_rises_45 ?_
            refine zrw (nI_add _ _) ?_
            refine zald (t := (24 * q) + i) hx hb hK hP 5 rfl (by omega) (by decide) dX6_rises_46 ?_
            refine lv_bipush (v := (-9)) hx hb dX6_rises_47 (by decide) ?_
            refine lv_bipush (v := nI 9) hx hb dX6_rises_49 (by decide) ?_
            refine zcsE (va_runS (As := [.int (NU ((24 * q) + i)), .int ((-9)), .int (nI 9)]) (rest := []) ⟨hx, hb, hml, hown, hts⟩ (d_X6_in l D cI cJ (NU ((24 * q) + i)) ((-9)) (nI 9) ((-9)) 9 (by decide) (by decide) H.size) (va_cwS 3 hts gX6_rises_X6_in rfl rfl rfl (by decide +kernel) ⟨Nat.le_of_ble_eq_true rfl, Nat.le_of_ble_eq_true rfl⟩) (zpS hK hN hZ hP hD hS hA [] rfl (by decide)) rfl rfl hl.1 rfl (lv_room (Nat.le_of_ble_eq_true rfl)) dX6_rises_51 ⟨Nat.zero_le _, Nat.zero_le _⟩) ?_
            refine lv_if_eq (tgt := 83) hx hb dX6_rises_54 (by decide) (fun c54_4 => ?_) (fun c54_4 => ?_)
            · have c54_4 := bI_0.mp c54_4
              refine lv_iload_n hx hb dX6_rises_83 rfl (lv_at hl 3 rfl) ?_
              exact hret hP hD hS dX6_rises_84 rfl (by (have hf : zfind (zPri NU (24 * q)) (min m n) 0 = i := (by rw [← hz, show min m n - i = (min m n - (i + 1)) + 1 by omega]; exact zfind_p (P := (zPri NU (24 * q))) (by assumption))); rw [show zo_rises S E n k BT SZ NU (nI q) = (nI i, zri S NU (24 * q) i, E) from by rw [zo_rises, if_pos hz0, nI_clamp (show q < 2147483648 by omega), hm, nI_clamp (show m < 2147483648 by omega), hf]]; exact ⟨rfl, rfl⟩)
            · have c54_4 := bI_n0.mp c54_4
              refine lv_aload_n hx hb dX6_rises_57 rfl (lv_at hl 0 rfl) ?_
              refine va_get (ci := 6) (v := .ref hs) (C := RX6) (T := TX6) (N := 20) hx hb hts hin6 hown hK hP 0 rfl rfl 0 (by decide) (hts (.fieldLink RX6 7 "UpAllRoundModel" "s" "[I") (List.mem_of_getElem? (i := 3) rfl)) (fun _ h9 => h9) hf0 dX6_rises_58 ?_
              refine lv_bipush (v := nI 32) hx hb dX6_rises_61 (by decide) ?_
              refine lv_iload_n hx hb dX6_rises_63 rfl (lv_at hl 3 rfl) ?_
              refine lv_iadd hx hb dX6_rises_64 ?_
              refine zrw (nI_add _ _) ?_
              refine lv_aload_n hx hb dX6_rises_65 rfl (lv_at hl 0 rfl) ?_
              refine va_get (ci := 6) (v := .ref hn9) (C := RX6) (T := TX6) (N := 20) hx hb hts hin6 hown hK hP 0 rfl rfl 18 (by decide) (hts (.fieldLink RX6 40 "UpAllRoundModel" "number" "[I") (List.mem_of_getElem? (i := 2) rfl)) (fun _ h9 => h9) hf18 dX6_rises_66 ?_
              refine lv_bipush (v := nI 24) hx hb dX6_rises_69 (by decide) ?_
              refine lv_iload_n hx hb dX6_rises_71 rfl (lv_at hl 1 rfl) ?_
              refine lv_imul hx hb dX6_rises_72 ?_
              refine zrw (pk_mul _ _) ?_
              refine lv_iload_n hx hb dX6_rises_73 rfl (lv_at hl 3 rfl) ?_
              refine lv_iadd hx hb dX6_rises_74 ?_
              refine zrw (nI_add _ _) ?_
              refine zald (t := (24 * q) + i) hx hb hK hP 5 rfl (by omega) (by decide) dX6_rises_75 ?_
              refine zast (t := 32 + i) hx hb hK hP hD hS 1 rfl (by omega) (by decide) dX6_rises_76 (fun H locs hP hD hS => ?_)
              have hP : va_P D vwCl [(h, .inr (6, fs)), (hs, .inl (cI, 380, .inl (upd (zri S NU (24 * q) i) (32 + i) (NU ((24 * q) + i))))), (hE, .inl (cI, 7, .inl E)), (hb9, .inl (cI, 4, .inl BT)), (hz9, .inl (cI, 4, .inl SZ)), (hn9, .inl (cI, 96, .inl NU))] H := hP
              have hD : va_D AA [(h, .inr (6, fs)), (hs, .inl (cI, 380, .inl (upd (zri S NU (24 * q) i) (32 + i) (NU ((24 * q) + i))))), (hE, .inl (cI, 7, .inl E)), (hb9, .inl (cI, 4, .inl BT)), (hz9, .inl (cI, 4, .inl SZ)), (hn9, .inl (cI, 96, .inl NU))] := hD
              refine lv_iinc (v := nI (i + 1)) (lv' := [(3, .int (nI (i + 1))), (0, .ref h), (1, .int (nI q)), (2, .int (nI ((zlk BT (nI q)))))]) hx hb dX6_rises_77 hl (k := 3) rfl (nI_add _ _) (by decide) rfl (fun ls hl => ?_)
              refine lv_goto (tgt := 18) hx hb dX6_rises_80 (by decide) ?_
              rw [zri_s] at hP hD
              exact ih_18  (i + 1)  (by omega) (by omega) (by omega) (by rw [← hz, show min m n - i = (min m n - (i + 1)) + 1 by omega]; exact (zfind_n (P := (zPri NU (24 * q))) (fun h9 => h9 (by assumption))).symm) ls (lv_sub hl [1, 2, 3, 0] rfl) H locs hP hD hS
    exact L_18 (m + 1) 0  (by omega) (by omega) (Nat.zero_le _) rfl ls (lv_sub hl [2, 3, 1, 0] rfl) _ _ hP hD hS
  · have c7_1 : ¬ (((zlk BT sh)) = 0) := fun h9 => c7_1 ((nI_eq (a := (zlk BT sh)) (b := 0) (by have h98 := zlk_le BT sh; omega) (by have h98 := zlk_le BT sh; omega)).mpr h9)
    refine lv_aload_n hx hb dX6_rises_10 rfl (lv_at hl 1 rfl) ?_
    refine lv_iload_n hx hb dX6_rises_11 rfl (lv_at hl 0 rfl) ?_
    refine zci (wr := [(hs, .inl (cI, 380, .inl S)), (hb9, .inl (cI, 4, .inl BT)), (hz9, .inl (cI, 4, .inl SZ)), (hn9, .inl (cI, 96, .inl NU))]) (va_runV (As := [.int (nI ((zlk BT sh)))]) (rest := []) ⟨hx, hb, hml, hown, hts⟩ (c_X6_error l D cI cJ h hE fs E ((zlk BT sh)) (by first | rfl | assumption | omega) (by have h98 := zlk_le BT sh; omega) s.heap.size) (cwV 1 hts gX6_rises_X6_error rfl rfl rfl (by decide +kernel) ⟨Nat.le_of_ble_eq_true rfl, Nat.le_of_ble_eq_true rfl⟩) (zpV hK hN hZ hP hD hS hA [0, 2] rfl (by decide) 0 rfl rfl rfl) rfl rfl hl.1 rfl (lv_room (Nat.le_of_ble_eq_true rfl)) dX6_rises_12 ⟨Nat.zero_le _, Nat.zero_le _⟩) hP hD hS hA [0, 2] [1, 3, 4, 5] rfl rfl (by decide) (by decide) (fun r_7 w_6 H locs h_5 hP hD hS => ?_)
    obtain ⟨rfl, rfl⟩ := h_5
    have hP : va_P D vwCl [(hs, .inl (cI, 380, .inl S)), (hb9, .inl (cI, 4, .inl BT)), (hz9, .inl (cI, 4, .inl SZ)), (hn9, .inl (cI, 96, .inl NU)), (h, .inr (6, fs)), (hE, .inl (cI, 7, .inl (upd E ((zlk BT sh)) (E ((zlk BT sh)) + nI 1))))] H := hP
    have hD : va_D AA [(hs, .inl (cI, 380, .inl S)), (hb9, .inl (cI, 4, .inl BT)), (hz9, .inl (cI, 4, .inl SZ)), (hn9, .inl (cI, 96, .inl NU)), (h, .inr (6, fs)), (hE, .inl (cI, 7, .inl (upd E ((zlk BT sh)) (E ((zlk BT sh)) + nI 1))))] := hD
    have hP := hP.sub (ws' := [(h, .inr (6, fs)), (hs, .inl (cI, 380, .inl S)), (hE, .inl (cI, 7, .inl (upd E ((zlk BT sh)) (E ((zlk BT sh)) + nI 1)))), (hb9, .inl (cI, 4, .inl BT)), (hz9, .inl (cI, 4, .inl SZ)), (hn9, .inl (cI, 96, .inl NU))]) [4, 0, 5, 1, 2, 3] rfl
    have hD := hD.sub (ws' := [(h, .inr (6, fs)), (hs, .inl (cI, 380, .inl S)), (hE, .inl (cI, 7, .inl (upd E ((zlk BT sh)) (E ((zlk BT sh)) + nI 1)))), (hb9, .inl (cI, 4, .inl BT)), (hz9, .inl (cI, 4, .inl SZ)), (hn9, .inl (cI, 96, .inl NU))]) [4, 0, 5, 1, 2, 3] (by decide) rfl
    exact hret hP hD hS dX6_rises_15 rfl (by rw [show zo_rises S E n k BT SZ NU sh = zerrE (zlk BT sh) S E from if_neg (by assumption)]; exact ⟨rfl, rfl⟩)
set_option maxHeartbeats 4000000 in
set_option maxRecDepth 100000 in
theorem c_X6_judge (l : Launch) (D : va_G) (cI cJ : ClassId) (h : Nat) (hs : Nat) (hE : Nat) (fs : List Value) (S : Nat → Int32) (E : Nat → Int32) (n : Nat) (k : Nat) (hb9 : Nat) (hz9 : Nat) (hn9 : Nat) (BT : Nat → Int32) (SZ : Nat → Int32) (NU : Nat → Int32) (sh : Int32) (hf0 : fs[0]? = some (.ref hs)) (hf4 : fs[4]? = some (.ref hE)) (hn1 : S 1 = nI n) (hk6 : S 6 = nI k) (hn4 : 4 ≤ n) (hn14 : n ≤ 14) (hkle : k ≤ 6) (hf16 : fs[16]? = some (.ref hb9)) (hf17 : fs[17]? = some (.ref hz9)) (hf18 : fs[18]? = some (.ref hn9)) (hsz : ∀ i, i < 4 → ∃ m : Nat, SZ i = nI m ∧ m ≤ 24) : zMi l yX6_judge wsX6_judge ({ frames := 3, cells := 0, slots := 0, locals := 63 } : Room) D [(cI, .int), (cJ, .array .int)] [.ref h, .int sh] [(h, .inr (6, fs)), (hs, .inl (cI, 380, .inl S)), (hE, .inl (cI, 7, .inl E)), (hb9, .inl (cI, 4, .inl BT)), (hz9, .inl (cI, 4, .inl SZ)), (hn9, .inl (cI, 96, .inl NU))] (fun r w => r = (zo_judge S E n k BT SZ NU sh).1 ∧ w = [(h, .inr (6, fs)), (hs, .inl (cI, 380, .inl ((zo_judge S E n k BT SZ NU sh).2.1))), (hE, .inl (cI, 7, .inl ((zo_judge S E n k BT SZ NU sh).2.2))), (hb9, .inl (cI, 4, .inl BT)), (hz9, .inl (cI, 4, .inl SZ)), (hn9, .inl (cI, 96, .inl NU))]) := by
  refine zMi.start (cc := cX6_judge) (maxL := 4) (rt := .int) (by first | decide | decide +kernel) rfl (Nat.le_of_ble_eq_true rfl) ?_
  intro pg ev s mt args below meth cd ls AA QQ ⟨hx, hb, hml, hr, hlocks, hown, hts, hK, hN, hZ, hP, hD, hA, hS, hl⟩ hret
  have hown : s.vm.findClass RX6 = some mt.cls := hown
  have hl : lv_has ls 4 [(0, .ref h), (1, .int sh)] := hl
  have hin6 : ∀ w ∈ wsX60, w ∈ wsX6_judge := fun w h => List.mem_cons_of_mem _ (List.mem_append_right _ (h))
  refine lv_aload_n hx hb dX6_judge_0 rfl (lv_at hl 0 rfl) ?_
  refine lv_iload_n hx hb dX6_judge_1 rfl (lv_at hl 1 rfl) ?_
  refine zcsE (va_runV (As := [.int sh]) (rest := []) ⟨hx, hb, hml, hown, hts⟩ (c_X6_lacks l D cI cJ h fs hb9 BT sh (by first | rfl | assumption | omega) s.heap.size) (cwV 1 hts gX6_judge_X6_lacks rfl rfl rfl (by decide +kernel) ⟨Nat.le_of_ble_eq_true rfl, Nat.le_of_ble_eq_true rfl⟩) (zpV hK hN hZ hP hD hS hA [0, 3] rfl (by decide) 0 rfl rfl rfl) rfl rfl hl.1 rfl (lv_room (Nat.le_of_ble_eq_true rfl)) dX6_judge_2 ⟨Nat.zero_le _, Nat.zero_le _⟩) ?_
  refine lv_istore_n (lv' := [(2, .int (nI ((zlk BT sh)))), (0, .ref h), (1, .int sh)]) hx hb dX6_judge_5 rfl hl (by decide) rfl (fun ls hl => ?_)
  refine lv_iload_n hx hb dX6_judge_6 rfl (lv_at hl 0 rfl) ?_
  refine lv_if_eq (tgt := 16) hx hb dX6_judge_7 (by decide) (fun c7_1 => ?_) (fun c7_1 => ?_)
  · have c7_1 : ((zlk BT sh)) = 0 := (nI_eq (a := (zlk BT sh)) (b := 0) (by have h98 := zlk_le BT sh; omega) (by have h98 := zlk_le BT sh; omega)).mp c7_1
    have hz0 := c7_1
    obtain ⟨hz1, hz2⟩ := zlk_0 c7_1
    obtain ⟨q, h_q, rfl⟩ : ∃ q : Nat, q ≤ 3 ∧ sh = nI q := zrg_of hz1 (by decide)
    obtain ⟨m, hm, hm24⟩ := hsz q (by omega)
    refine lv_iconst (v := nI 0) hx hb dX6_judge_16 (by decide) ?_
    refine lv_istore_n (lv' := [(3, .int (nI 0)), (2, .int (nI ((zlk BT (nI q))))), (0, .ref h), (1, .int (nI q))]) hx hb dX6_judge_17 rfl hl (by decide) rfl (fun ls hl => ?_)
    have L_18 : ∀ (fu i : Nat)  (hi : i ≤ m) (hn : m + 1 ≤ i + fu) (hib : i ≤ min m k) (hz : zfind (zPju S NU (24 * q)) (min m k - i) i = zfind (zPju S NU (24 * q)) (min m k) 0), ∀ (ls : Array Slot), lv_has ls 4 [(0, .ref h), (1, .int (nI q)), (2, .int (nI ((zlk BT (nI q))))), (3, .int (nI i))] → ∀ (H : Heap) (locs : List Loc), va_P D vwCl [(h, .inr (6, fs)), (hs, .inl (cI, 380, .inl S)), (hE, .inl (cI, 7, .inl E)), (hb9, .inl (cI, 4, .inl BT)), (hz9, .inl (cI, 4, .inl SZ)), (hn9, .inl (cI, 96, .inl NU))] H → va_D AA [(h, .inr (6, fs)), (hs, .inl (cI, 380, .inl S)), (hE, .inl (cI, 7, .inl E)), (hb9, .inl (cI, 4, .inl BT)), (hz9, .inl (cI, 4, .inl SZ)), (hn9, .inl (cI, 96, .inl NU))] → va_S AA s.heap H locs → W pg l ev ({ frames := 3, cells := 0, slots := 0, locals := 63 } : Room) s mt args below meth cd H locs 0 0 QQ (F0 mt 18 ls []) := by
      intro fu
      induction fu with
      | zero =>
        intro i  hi hn
        exact absurd hn (by omega)
      | succ fu ih_18 =>
        intro i  hi hn hib hz ls hl H locs hP hD hS
        refine lv_iload_n hx hb dX6_judge_18 rfl (lv_at hl 3 rfl) ?_
        refine lv_aload_n hx hb dX6_judge_19 rfl (lv_at hl 0 rfl) ?_
        refine va_get (ci := 6) (v := .ref hz9) (C := RX6) (T := TX6) (N := 20) hx hb hts hin6 hown hK hP 0 rfl rfl 17 (by decide) (hts (.fieldLink RX6 37 "UpAllRoundModel" "sizes" "[I") (List.mem_of_getElem? (i := 1) rfl)) (fun _ h9 => h9) hf17 dX6_judge_20 ?_
        refine lv_iload_n hx hb dX6_judge_23 rfl (lv_at hl 1 rfl) ?_
        refine zald (t := q) hx hb hK hP 4 rfl (by omega) (by decide) dX6_judge_24 ?_
        refine zrw hm ?_
        refine lv_icmp_ge (tgt := 62) hx hb dX6_judge_25 (by decide) (fun c25_2 => ?_) (fun c25_2 => ?_)
        · have c25_2 : m ≤ i := (nI_leI (a := m) (b := i) (by omega) (by omega)).mp c25_2
          refine lv_iload_n hx hb dX6_judge_62 rfl (lv_at hl 3 rfl) ?_
          exact hret hP hD hS dX6_judge_63 rfl (by (have hf : zfind (zPju S NU (24 * q)) (min m k) 0 = i := (by (have hi9 : i = min m k := (by omega)); rw [← hz, show min m k - i = 0 by omega]; rfl)); rw [show zo_judge S E n k BT SZ NU (nI q) = (nI i, S, E) from by rw [zo_judge, if_pos hz0, nI_clamp (show q < 2147483648 by omega), hm, nI_clamp (show m < 2147483648 by omega), hf]]; exact ⟨rfl, rfl⟩)
        · have c25_2 : ¬ (m ≤ i) := fun h9 => c25_2 ((nI_leI (a := m) (b := i) (by omega) (by omega)).mpr h9)
          refine lv_aload_n hx hb dX6_judge_28 rfl (lv_at hl 0 rfl) ?_
          refine lv_iload_n hx hb dX6_judge_29 rfl (lv_at hl 3 rfl) ?_
          refine zcsE (va_runV (As := [.int (nI i)]) (rest := []) ⟨hx, hb, hml, hown, hts⟩ (c_X6_isClimber l D cI cJ h hs fs S k (nI i) (by first | rfl | assumption | omega) (by first | rfl | assumption | omega) (by first | rfl | assumption | omega) H.size) (cwV 1 hts gX6_judge_X6_isClimber rfl rfl rfl (by decide +kernel) ⟨Nat.le_of_ble_eq_true rfl, Nat.le_of_ble_eq_true rfl⟩) (zpV hK hN hZ hP hD hS hA [0, 1] rfl (by decide) 0 rfl rfl rfl) rfl rfl hl.1 rfl (lv_room (Nat.le_of_ble_eq_true rfl)) dX6_judge_30 ⟨Nat.zero_le _, Nat.zero_le _⟩) ?_
          refine lv_if_eq (tgt := 62) hx hb dX6_judge_33 (by decide) (fun c33_3 => ?_) (fun c33_3 => ?_)
          · have c33_3 := bI_0.mp c33_3
            have h_i : ¬ i < k := fun h9 => c33_3 ((zin_nI (show i < 2147483648 by omega)).mpr h9)
            refine lv_iload_n hx hb dX6_judge_62 rfl (lv_at hl 3 rfl) ?_
            exact hret hP hD hS dX6_judge_63 rfl (by (have hf : zfind (zPju S NU (24 * q)) (min m k) 0 = i := (by (have hi9 : i = min m k := (by omega)); rw [← hz, show min m k - i = 0 by omega]; rfl)); rw [show zo_judge S E n k BT SZ NU (nI q) = (nI i, S, E) from by rw [zo_judge, if_pos hz0, nI_clamp (show q < 2147483648 by omega), hm, nI_clamp (show m < 2147483648 by omega), hf]]; exact ⟨rfl, rfl⟩)
          · have c33_3 := bI_n0.mp c33_3
            have h_i : i < k := (zin_nI (show i < 2147483648 by omega)).mp c33_3
            refine lv_aload_n hx hb dX6_judge_36 rfl (lv_at hl 0 rfl) ?_
            refine lv_iload_n hx hb dX6_judge_37 rfl (lv_at hl 3 rfl) ?_
            refine lv_iconst (v := nI 2) hx hb dX6_judge_38 (by decide) ?_
            refine zcsE (va_runV (As := [.int (nI i), .int (nI 2)]) (rest := []) ⟨hx, hb, hml, hown, hts⟩ (c_X6_its l D cI cJ h hs fs S i 2 (by first | rfl | assumption | omega) (by first | rfl | assumption | omega) H.size) (cwV 2 hts gX6_judge_X6_its rfl rfl rfl (by decide +kernel) ⟨Nat.le_of_ble_eq_true rfl, Nat.le_of_ble_eq_true rfl⟩) (zpV hK hN hZ hP hD hS hA [0, 1] rfl (by decide) 0 rfl rfl rfl) rfl rfl hl.1 rfl (lv_room (Nat.le_of_ble_eq_true rfl)) dX6_judge_39 ⟨Nat.zero_le _, Nat.zero_le _⟩) ?_
            refine lv_aload_n hx hb dX6_judge_42 rfl (lv_at hl 0 rfl) ?_
            refine va_get (ci := 6) (v := .ref hn9) (C := RX6) (T := TX6) (N := 20) hx hb hts hin6 hown hK hP 0 rfl rfl 18 (by decide) (hts (.fieldLink RX6 40 "UpAllRoundModel" "number" "[I") (List.mem_of_getElem? (i := 2) rfl)) (fun _ h9 => h9) hf18 dX6_judge_43 ?_
            refine lv_bipush (v := nI 24) hx hb dX6_judge_46 (by decide) ?_
            refine lv_iload_n hx hb dX6_judge_48 rfl (lv_at hl 1 rfl) ?_
            refine lv_imul hx hb dX6_judge_49 ?_
            refine zrw (pk_mul _ _) ?_
            refine lv_iload_n hx hb dX6_judge_50 rfl (lv_at hl 3 rfl) ?_
            refine lv_iadd hx hb dX6_judge_51 ?_
            refine zrw (nI_add _ _) ?_
            refine zald (t := (24 * q) + i) hx hb hK hP 5 rfl (by omega) (by decide) dX6_judge_52 ?_
            refine lv_icmp_ne (tgt := 62) hx hb dX6_judge_53 (by decide) (fun c53_4 => ?_) (fun c53_4 => ?_)
            · refine lv_iload_n hx hb dX6_judge_62 rfl (lv_at hl 3 rfl) ?_
              exact hret hP hD hS dX6_judge_63 rfl (by (have hf : zfind (zPju S NU (24 * q)) (min m k) 0 = i := (by rw [← hz, show min m k - i = (min m k - (i + 1)) + 1 by omega]; exact zfind_p (P := (zPju S NU (24 * q))) (by assumption))); rw [show zo_judge S E n k BT SZ NU (nI q) = (nI i, S, E) from by rw [zo_judge, if_pos hz0, nI_clamp (show q < 2147483648 by omega), hm, nI_clamp (show m < 2147483648 by omega), hf]]; exact ⟨rfl, rfl⟩)
            · refine lv_iinc (v := nI (i + 1)) (lv' := [(3, .int (nI (i + 1))), (0, .ref h), (1, .int (nI q)), (2, .int (nI ((zlk BT (nI q)))))]) hx hb dX6_judge_56 hl (k := 3) rfl (nI_add _ _) (by decide) rfl (fun ls hl => ?_)
              refine lv_goto (tgt := 18) hx hb dX6_judge_59 (by decide) ?_
              exact ih_18  (i + 1)  (by omega) (by omega) (by omega) (by rw [← hz, show min m k - i = (min m k - (i + 1)) + 1 by omega]; exact (zfind_n (P := (zPju S NU (24 * q))) (fun h9 => h9 (by assumption))).symm) ls (lv_sub hl [1, 2, 3, 0] rfl) H locs hP hD hS
    exact L_18 (m + 1) 0  (by omega) (by omega) (Nat.zero_le _) rfl ls (lv_sub hl [2, 3, 1, 0] rfl) _ _ hP hD hS
  · have c7_1 : ¬ (((zlk BT sh)) = 0) := fun h9 => c7_1 ((nI_eq (a := (zlk BT sh)) (b := 0) (by have h98 := zlk_le BT sh; omega) (by have h98 := zlk_le BT sh; omega)).mpr h9)
    refine lv_aload_n hx hb dX6_judge_10 rfl (lv_at hl 1 rfl) ?_
    refine lv_iload_n hx hb dX6_judge_11 rfl (lv_at hl 0 rfl) ?_
    refine zci (wr := [(hs, .inl (cI, 380, .inl S)), (hb9, .inl (cI, 4, .inl BT)), (hz9, .inl (cI, 4, .inl SZ)), (hn9, .inl (cI, 96, .inl NU))]) (va_runV (As := [.int (nI ((zlk BT sh)))]) (rest := []) ⟨hx, hb, hml, hown, hts⟩ (c_X6_error l D cI cJ h hE fs E ((zlk BT sh)) (by first | rfl | assumption | omega) (by have h98 := zlk_le BT sh; omega) s.heap.size) (cwV 1 hts gX6_judge_X6_error rfl rfl rfl (by decide +kernel) ⟨Nat.le_of_ble_eq_true rfl, Nat.le_of_ble_eq_true rfl⟩) (zpV hK hN hZ hP hD hS hA [0, 2] rfl (by decide) 0 rfl rfl rfl) rfl rfl hl.1 rfl (lv_room (Nat.le_of_ble_eq_true rfl)) dX6_judge_12 ⟨Nat.zero_le _, Nat.zero_le _⟩) hP hD hS hA [0, 2] [1, 3, 4, 5] rfl rfl (by decide) (by decide) (fun r_7 w_6 H locs h_5 hP hD hS => ?_)
    obtain ⟨rfl, rfl⟩ := h_5
    have hP : va_P D vwCl [(hs, .inl (cI, 380, .inl S)), (hb9, .inl (cI, 4, .inl BT)), (hz9, .inl (cI, 4, .inl SZ)), (hn9, .inl (cI, 96, .inl NU)), (h, .inr (6, fs)), (hE, .inl (cI, 7, .inl (upd E ((zlk BT sh)) (E ((zlk BT sh)) + nI 1))))] H := hP
    have hD : va_D AA [(hs, .inl (cI, 380, .inl S)), (hb9, .inl (cI, 4, .inl BT)), (hz9, .inl (cI, 4, .inl SZ)), (hn9, .inl (cI, 96, .inl NU)), (h, .inr (6, fs)), (hE, .inl (cI, 7, .inl (upd E ((zlk BT sh)) (E ((zlk BT sh)) + nI 1))))] := hD
    have hP := hP.sub (ws' := [(h, .inr (6, fs)), (hs, .inl (cI, 380, .inl S)), (hE, .inl (cI, 7, .inl (upd E ((zlk BT sh)) (E ((zlk BT sh)) + nI 1)))), (hb9, .inl (cI, 4, .inl BT)), (hz9, .inl (cI, 4, .inl SZ)), (hn9, .inl (cI, 96, .inl NU))]) [4, 0, 5, 1, 2, 3] rfl
    have hD := hD.sub (ws' := [(h, .inr (6, fs)), (hs, .inl (cI, 380, .inl S)), (hE, .inl (cI, 7, .inl (upd E ((zlk BT sh)) (E ((zlk BT sh)) + nI 1)))), (hb9, .inl (cI, 4, .inl BT)), (hz9, .inl (cI, 4, .inl SZ)), (hn9, .inl (cI, 96, .inl NU))]) [4, 0, 5, 1, 2, 3] (by decide) rfl
    exact hret hP hD hS dX6_judge_15 rfl (by rw [show zo_judge S E n k BT SZ NU sh = zerrE (zlk BT sh) S E from if_neg (by assumption)]; exact ⟨rfl, rfl⟩)
set_option maxHeartbeats 4000000 in
set_option maxRecDepth 100000 in
theorem c_X5_rises (l : Launch) (D : va_G) (cI cJ : ClassId) (h : Nat) (hE : Nat) (hS9 : Nat) (fs : List Value) (S : Nat → Int32) (E : Nat → Int32) (n : Nat) (k : Nat) (ft : List Value) (hr9 : Nat) (hSh : Nat) (hN0 : Nat) (w0 : Nat) (w1 : Nat) (w2 : Nat) (w3 : Nat) (hb9 : Nat) (hz9 : Nat) (BT : Nat → Int32) (SZ : Nat → Int32) (NU : Nat → Int32) (sh : Int32) (hU0 : fs[0]? = some (.ref hS9)) (hU7 : fs[7]? = some (.ref hE)) (hn1 : S 1 = nI n) (hk6 : S 6 = nI k) (hn4 : 4 ≤ n) (hn14 : n ≤ 14) (hkle : k ≤ 6) (hft0 : ft[0]? = some (.int (nI n))) (hft1 : ft[1]? = some (.ref hr9)) (hU5 : fs[5]? = some (.ref hSh)) (hsz : ∀ i, i < 4 → ∃ m : Nat, SZ i = nI m ∧ m ≤ 24) : zMi l yX5_rises wsX5_rises ({ frames := 1, cells := 0, slots := 0, locals := 22 } : Room) D [(cI, .int), (cJ, .array .int)] [.ref h, .int sh] [(h, .inr (5, fs)), (hS9, .inr (3, ft)), (hr9, .inl (cI, 14, .inl ((fun i => S (32 + i))))), (hE, .inl (cI, 7, .inl E)), (hSh, .inr (2, [.ref hN0, .ref hb9, .ref hz9])), (hN0, .inl (cJ, 4, .inr (.inr (.inr (.inr (zq4 w0 w1 w2 w3)))))), (w0, .inl (cI, 24, .inl ((fun x => NU (24 * 0 + x))))), (w1, .inl (cI, 24, .inl ((fun x => NU (24 * 1 + x))))), (w2, .inl (cI, 24, .inl ((fun x => NU (24 * 2 + x))))), (w3, .inl (cI, 24, .inl ((fun x => NU (24 * 3 + x))))), (hb9, .inl (cI, 4, .inl BT)), (hz9, .inl (cI, 4, .inl SZ))] (fun r w => r = (zo_rises S E n k BT SZ NU sh).1 ∧ w = [(h, .inr (5, fs)), (hS9, .inr (3, ft)), (hr9, .inl (cI, 14, .inl ((fun i => (zo_rises S E n k BT SZ NU sh).2.1 (32 + i))))), (hE, .inl (cI, 7, .inl ((zo_rises S E n k BT SZ NU sh).2.2))), (hSh, .inr (2, [.ref hN0, .ref hb9, .ref hz9])), (hN0, .inl (cJ, 4, .inr (.inr (.inr (.inr (zq4 w0 w1 w2 w3)))))), (w0, .inl (cI, 24, .inl ((fun x => NU (24 * 0 + x))))), (w1, .inl (cI, 24, .inl ((fun x => NU (24 * 1 + x))))), (w2, .inl (cI, 24, .inl ((fun x => NU (24 * 2 + x))))), (w3, .inl (cI, 24, .inl ((fun x => NU (24 * 3 + x))))), (hb9, .inl (cI, 4, .inl BT)), (hz9, .inl (cI, 4, .inl SZ))]) := by
  refine zMi.start (cc := cX5_rises) (maxL := 5) (rt := .int) (by first | decide | decide +kernel) rfl (Nat.le_of_ble_eq_true rfl) ?_
  intro pg ev s mt args below meth cd ls AA QQ ⟨hx, hb, hml, hr, hlocks, hown, hts, hK, hN, hZ, hP, hD, hA, hS, hl⟩ hret
  have hown : s.vm.findClass RX5 = some mt.cls := hown
  have hl : lv_has ls 5 [(0, .ref h), (1, .int sh)] := hl
  have hin2 : ∀ w ∈ wsX20, w ∈ wsX5_rises := fun w h => List.mem_cons_of_mem _ (List.mem_append_left _ (List.mem_append_right _ (h)))
  have hin3 : ∀ w ∈ wsX30, w ∈ wsX5_rises := fun w h => List.mem_cons_of_mem _ (List.mem_append_right _ (h))
  have hin5 : ∀ w ∈ wsX50, w ∈ wsX5_rises := fun w h => List.mem_cons_of_mem _ (List.mem_append_left _ (List.mem_append_left _ (List.mem_append_right _ (h))))
  refine lv_iload_n hx hb dX5_rises_0 rfl (lv_at hl 1 rfl) ?_
  refine lv_iconst (v := nI 0) hx hb dX5_rises_1 (by decide) ?_
  refine lv_iconst (v := nI 3) hx hb dX5_rises_2 (by decide) ?_
  refine zcsE (va_runS (As := [.int sh, .int (nI 0), .int (nI 3)]) (rest := []) ⟨hx, hb, hml, hown, hts⟩ (d_X5_isOutside l D cI cJ sh (nI 0) (nI 3) 0 3 (by decide) (by decide) s.heap.size) (va_cwS 3 hts gX5_rises_X5_isOutside rfl rfl rfl (by decide +kernel) ⟨Nat.le_of_ble_eq_true rfl, Nat.le_of_ble_eq_true rfl⟩) (zpS hK hN hZ hP hD hS hA [] rfl (by decide)) rfl rfl hl.1 rfl (lv_room (Nat.le_of_ble_eq_true rfl)) dX5_rises_3 ⟨Nat.zero_le _, Nat.zero_le _⟩) ?_
  refine lv_if_eq (tgt := 15) hx hb dX5_rises_6 (by decide) (fun c6_1 => ?_) (fun c6_1 => ?_)
  · have c6_1 := bI_nX0.mp c6_1
    have hz1 := c6_1
    obtain ⟨q, h_q, rfl⟩ : ∃ q : Nat, q ≤ 3 ∧ sh = nI q := zrg_of c6_1 (by decide)
    obtain ⟨m, hm, hm24⟩ := hsz q (by omega)
    refine lv_aload_n hx hb dX5_rises_15 rfl (lv_at hl 0 rfl) ?_
    refine va_get (ci := 5) (v := .ref hSh) (C := RX5) (T := TX5) (N := 9) hx hb hts hin5 hown hK hP 0 rfl rfl 5 (by decide) (hts (.fieldLink RX5 39 "UpAllRound" "sheets" "LUpAllRound$Sheets;") (List.mem_of_getElem? (i := 1) rfl)) (fun _ h9 => h9) hU5 dX5_rises_16 ?_
    refine lv_iload_n hx hb dX5_rises_19 rfl (lv_at hl 1 rfl) ?_
    refine zcsE (va_runVN (As := [.int (nI q)]) (rest := []) ⟨hx, hb, hml, hown, hts⟩ (c_X2_isMissing l D cI cJ hSh [.ref hN0, .ref hb9, .ref hz9] hb9 BT q (by first | rfl | assumption | omega) (by first | rfl | assumption | omega) s.heap.size) ⟨va_cnB 1 hts gX5_rises_X2_isMissing_n202 rfl rfl rfl (hN (.methodLinkNest "UpAllRound" 202 yX2_isMissing "UpAllRound") (List.mem_of_getElem? (i := 58) rfl)) (hts (.initialized RX2) (List.mem_of_getElem? (i := 18) rfl)) (by decide +kernel) ⟨Nat.le_of_ble_eq_true rfl, Nat.le_of_ble_eq_true rfl⟩, (hts (.instanceMethod yX2_isMissing) (List.mem_of_getElem? (i := 17) rfl)), (hts (.selects RX2 yX2_isMissing yX2_isMissing) (List.mem_of_getElem? (i := 19) rfl))⟩ (zpV hK hN hZ hP hD hS hA [4, 10] rfl (by decide) 4 rfl rfl rfl) rfl rfl hl.1 rfl (lv_room (Nat.le_of_ble_eq_true rfl)) dX5_rises_20 ⟨Nat.zero_le _, Nat.zero_le _⟩) ?_
    refine lv_if_eq (tgt := 32) hx hb dX5_rises_23 (by decide) (fun c23_2 => ?_) (fun c23_2 => ?_)
    · have c23_2 := bI_0.mp c23_2
      refine lv_aload_n hx hb dX5_rises_32 rfl (lv_at hl 0 rfl) ?_
      refine va_get (ci := 5) (v := .ref hSh) (C := RX5) (T := TX5) (N := 9) hx hb hts hin5 hown hK hP 0 rfl rfl 5 (by decide) (hts (.fieldLink RX5 39 "UpAllRound" "sheets" "LUpAllRound$Sheets;") (List.mem_of_getElem? (i := 1) rfl)) (fun _ h9 => h9) hU5 dX5_rises_33 ?_
      refine va_getN (ci := 2) (v := .ref hz9) (C := RX2) (T := TX2) (N := 3) hx hb hts hin2 hown hK hP 4 rfl rfl 2 (by decide) (va_Nw.use rfl (hN (.fieldLinkNest "UpAllRound" 207 "UpAllRound$Sheets" "sizes" "[I" "UpAllRound") (List.mem_of_getElem? (i := 21) rfl))) (fun _ h9 => h9) rfl dX5_rises_36 ?_
      refine lv_iload_n hx hb dX5_rises_39 rfl (lv_at hl 1 rfl) ?_
      refine zald (t := q) hx hb hK hP 11 rfl (by omega) (by decide) dX5_rises_40 ?_
      refine zrw hm ?_
      refine lv_aload_n hx hb dX5_rises_41 rfl (lv_at hl 0 rfl) ?_
      refine va_get (ci := 5) (v := .ref hS9) (C := RX5) (T := TX5) (N := 9) hx hb hts hin5 hown hK hP 0 rfl rfl 0 (by decide) (hts (.fieldLink RX5 12 "UpAllRound" "now" "LUpAllRound$Stair;") (List.mem_of_getElem? (i := 2) rfl)) (fun _ h9 => h9) hU0 dX5_rises_42 ?_
      refine va_getN (ci := 3) (v := .int (nI n)) (C := RX3) (T := TX3) (N := 16) hx hb hts hin3 hown hK hP 1 rfl rfl 0 (by decide) (va_Nw.use rfl (hN (.fieldLinkNest "UpAllRound" 67 "UpAllRound$Stair" "steps" "I" "UpAllRound") (List.mem_of_getElem? (i := 0) rfl))) (fun _ h9 => h9) hft0 dX5_rises_45 ?_
      refine va_mmin hx hb (by rw [hml]; exact hl.1.symm) hown (hts (.methodLink RX5 246 Lib.Math.min.name) (List.mem_of_getElem? (i := 3) rfl)) (hts (.static Lib.Math.min.name) (List.mem_of_getElem? (i := 4) rfl)) (hts (.initialized "java/lang/Math") (List.mem_of_getElem? (i := 5) rfl)) (hts (.code Lib.Math.min.name Lib.Math.min.code 2 (some .int)) (List.mem_of_getElem? (i := 6) rfl)) (Nat.le_of_ble_eq_true rfl) (Nat.le_of_ble_eq_true rfl) (Nat.zero_le _) (Nat.zero_le _) dX5_rises_48 ?_
      refine zrw (zmin_i (show m < 2147483648 by omega) (show n < 2147483648 by omega)) ?_
      refine lv_istore_n (lv' := [(2, .int (nI (min m n))), (0, .ref h), (1, .int (nI q))]) hx hb dX5_rises_51 rfl hl (by decide) rfl (fun ls hl => ?_)
      rcases (show q = 0 ∨ q = 1 ∨ q = 2 ∨ q = 3 from by omega) with h9 | h9 | h9 | h9
      · subst h9
        refine lv_iconst (v := nI 0) hx hb dX5_rises_52 (by decide) ?_
        refine lv_istore_n (lv' := [(3, .int (nI 0)), (2, .int (nI (min m n))), (0, .ref h), (1, .int (nI 0))]) hx hb dX5_rises_53 rfl hl (by decide) rfl (fun ls hl => ?_)
        have hP := zPx (i := 2) (g := (fun x => zri S NU (24 * 0) 0 (32 + x))) hP rfl (fun j _ => (congrFun zri_0 (32 + j)).symm)
        have hD := zDx (i := 2) (g := (fun x => zri S NU (24 * 0) 0 (32 + x))) hD rfl
        have hP : va_P D vwCl [(h, .inr (5, fs)), (hS9, .inr (3, ft)), (hr9, .inl (cI, 14, .inl ((fun x => zri S NU (24 * 0) 0 (32 + x))))), (hE, .inl (cI, 7, .inl E)), (hSh, .inr (2, [.ref hN0, .ref hb9, .ref hz9])), (hN0, .inl (cJ, 4, .inr (.inr (.inr (.inr (zq4 w0 w1 w2 w3)))))), (w0, .inl (cI, 24, .inl ((fun x => NU (24 * 0 + x))))), (w1, .inl (cI, 24, .inl ((fun x => NU (24 * 1 + x))))), (w2, .inl (cI, 24, .inl ((fun x => NU (24 * 2 + x))))), (w3, .inl (cI, 24, .inl ((fun x => NU (24 * 3 + x))))), (hb9, .inl (cI, 4, .inl BT)), (hz9, .inl (cI, 4, .inl SZ))] s.heap := hP
        have hD : va_D AA [(h, .inr (5, fs)), (hS9, .inr (3, ft)), (hr9, .inl (cI, 14, .inl ((fun x => zri S NU (24 * 0) 0 (32 + x))))), (hE, .inl (cI, 7, .inl E)), (hSh, .inr (2, [.ref hN0, .ref hb9, .ref hz9])), (hN0, .inl (cJ, 4, .inr (.inr (.inr (.inr (zq4 w0 w1 w2 w3)))))), (w0, .inl (cI, 24, .inl ((fun x => NU (24 * 0 + x))))), (w1, .inl (cI, 24, .inl ((fun x => NU (24 * 1 + x))))), (w2, .inl (cI, 24, .inl ((fun x => NU (24 * 2 + x))))), (w3, .inl (cI, 24, .inl ((fun x => NU (24 * 3 + x))))), (hb9, .inl (cI, 4, .inl BT)), (hz9, .inl (cI, 4, .inl SZ))] := hD
        have L_54 : ∀ (fu i : Nat)  (hi : i ≤ (min m n)) (hn : (min m n) + 1 ≤ i + fu) (hz : zfind (zPri NU (24 * 0)) (min m n - i) i = zfind (zPri NU (24 * 0)) (min m n) 0), ∀ (ls : Array Slot), lv_has ls 5 [(0, .ref h), (1, .int (nI 0)), (2, .int (nI (min m n))), (3, .int (nI i))] → ∀ (H : Heap) (locs : List Loc), va_P D vwCl [(h, .inr (5, fs)), (hS9, .inr (3, ft)), (hr9, .inl (cI, 14, .inl ((fun x => zri S NU (24 * 0) i (32 + x))))), (hE, .inl (cI, 7, .inl E)), (hSh, .inr (2, [.ref hN0, .ref hb9, .ref hz9])), (hN0, .inl (cJ, 4, .inr (.inr (.inr (.inr (zq4 w0 w1 w2 w3)))))), (w0, .inl (cI, 24, .inl ((fun x => NU (24 * 0 + x))))), (w1, .inl (cI, 24, .inl ((fun x => NU (24 * 1 + x))))), (w2, .inl (cI, 24, .inl ((fun x => NU (24 * 2 + x))))), (w3, .inl (cI, 24, .inl ((fun x => NU (24 * 3 + x))))), (hb9, .inl (cI, 4, .inl BT)), (hz9, .inl (cI, 4, .inl SZ))] H → va_D AA [(h, .inr (5, fs)), (hS9, .inr (3, ft)), (hr9, .inl (cI, 14, .inl ((fun x => zri S NU (24 * 0) i (32 + x))))), (hE, .inl (cI, 7, .inl E)), (hSh, .inr (2, [.ref hN0, .ref hb9, .ref hz9])), (hN0, .inl (cJ, 4, .inr (.inr (.inr (.inr (zq4 w0 w1 w2 w3)))))), (w0, .inl (cI, 24, .inl ((fun x => NU (24 * 0 + x))))), (w1, .inl (cI, 24, .inl ((fun x => NU (24 * 1 + x))))), (w2, .inl (cI, 24, .inl ((fun x => NU (24 * 2 + x))))), (w3, .inl (cI, 24, .inl ((fun x => NU (24 * 3 + x))))), (hb9, .inl (cI, 4, .inl BT)), (hz9, .inl (cI, 4, .inl SZ))] → va_S AA s.heap H locs → W pg l ev ({ frames := 1, cells := 0, slots := 0, locals := 22 } : Room) s mt args below meth cd H locs 0 0 QQ (F0 mt 54 ls []) := by
          intro fu
          induction fu with
          | zero =>
            intro i  hi hn
            exact absurd hn (by omega)
          | succ fu ih_54 =>
            intro i  hi hn hz ls hl H locs hP hD hS
            refine lv_iload_n hx hb dX5_rises_54 rfl (lv_at hl 3 rfl) ?_
            refine lv_iload_n hx hb dX5_rises_55 rfl (lv_at hl 2 rfl) ?_
            refine lv_icmp_ge (tgt := 103) hx hb dX5_rises_56 (by decide) (fun c56_3 => ?_) (fun c56_3 => ?_)
            · have c56_3 : (min m n) ≤ i := (nI_leI (a := min m n) (b := i) (by omega) (by omega)).mp c56_3
              refine lv_iload_n hx hb dX5_rises_103 rfl (lv_at hl 2 rfl) ?_
              exact hret hP hD hS dX5_rises_104 rfl (by (have hy : zlk BT (nI 0) = 0 := (by rw [zlk, if_pos (by decide), nI_clamp (show 0 < 2147483648 by omega), if_neg (by assumption)])); (have hf : zfind (zPri NU (24 * 0)) (min m n) 0 = (min m n) := (by rw [← hz, show min m n - i = 0 by omega]; exact (show i = min m n by omega))); rw [show zo_rises S E n k BT SZ NU (nI 0) = (nI (min m n), zri S NU (24 * 0) (min m n), E) from by rw [zo_rises, if_pos hy, nI_clamp (show 0 < 2147483648 by omega), hm, nI_clamp (show m < 2147483648 by omega), hf]]; exact ⟨rfl, by rw [show i = min m n from by omega]⟩)
            · have c56_3 : ¬ ((min m n) ≤ i) := fun h9 => c56_3 ((nI_leI (a := min m n) (b := i) (by omega) (by omega)).mpr h9)
              refine lv_aload_n hx hb dX5_rises_59 rfl (lv_at hl 0 rfl) ?_
              refine va_get (ci := 5) (v := .ref hSh) (C := RX5) (T := TX5) (N := 9) hx hb hts hin5 hown hK hP 0 rfl rfl 5 (by decide) (hts (.fieldLink RX5 39 "UpAllRound" "sheets" "LUpAllRound$Sheets;") (List.mem_of_getElem? (i := 1) rfl)) (fun _ h9 => h9) hU5 dX5_rises_60 ?_
              refine va_getN (ci := 2) (v := .ref hN0) (C := RX2) (T := TX2) (N := 3) hx hb hts hin2 hown hK hP 4 rfl rfl 0 (by decide) (va_Nw.use rfl (hN (.fieldLinkNest "UpAllRound" 205 "UpAllRound$Sheets" "numbers" "[[I" "UpAllRound") (List.mem_of_getElem? (i := 19) rfl))) (fun _ h9 => h9) rfl dX5_rises_63 ?_
              refine lv_iload_n hx hb dX5_rises_66 rfl (lv_at hl 1 rfl) ?_
              refine zaldq (t := 0) (x := w0) hx hb hK hP 5 rfl (by decide) (by decide) rfl dX5_rises_67 ?_
              refine lv_iload_n hx hb dX5_rises_68 rfl (lv_at hl 3 rfl) ?_
              refine zald (t := i) hx hb hK hP 6 rfl (by omega) (by decide) dX5_rises_69 ?_
              refine lv_istore (lv' := [(4, .int (((fun x => NU (24 * 0 + x))) i)), (0, .ref h), (1, .int (nI 0)), (2, .int (nI (min m n))), (3, .int (nI i))]) hx hb dX5_rises_70 hl (by decide) rfl (fun ls hl => ?_)
              refine lv_iload hx hb dX5_rises_72 (lv_at hl 0 rfl) ?_
              refine lv_bipush (v := (-9)) hx hb dX5_rises_74 (by decide) ?_
              refine lv_bipush (v := nI 9) hx hb dX5_rises_76 (by decide) ?_
              refine zcsE (va_runS (As := [.int (((fun x => NU (24 * 0 + x))) i), .int ((-9)), .int (nI 9)]) (rest := []) ⟨hx, hb, hml, hown, hts⟩ (d_X5_isOutside l D cI cJ (((fun x => NU (24 * 0 + x))) i) ((-9)) (nI 9) ((-9)) 9 (by decide) (by decide) H.size) (va_cwS 3 hts gX5_rises_X5_isOutside rfl rfl rfl (by decide +kernel) ⟨Nat.le_of_ble_eq_true rfl, Nat.le_of_ble_eq_true rfl⟩) (zpS hK hN hZ hP hD hS hA [] rfl (by decide)) rfl rfl hl.1 rfl (lv_room (Nat.le_of_ble_eq_true rfl)) dX5_rises_78 ⟨Nat.zero_le _, Nat.zero_le _⟩) ?_
              refine lv_if_eq (tgt := 86) hx hb dX5_rises_81 (by decide) (fun c81_4 => ?_) (fun c81_4 => ?_)
              · have c81_4 := bI_nX0.mp c81_4
                refine lv_aload_n hx hb dX5_rises_86 rfl (lv_at hl 1 rfl) ?_
                refine va_get (ci := 5) (v := .ref hS9) (C := RX5) (T := TX5) (N := 9) hx hb hts hin5 hown hK hP 0 rfl rfl 0 (by decide) (hts (.fieldLink RX5 12 "UpAllRound" "now" "LUpAllRound$Stair;") (List.mem_of_getElem? (i := 2) rfl)) (fun _ h9 => h9) hU0 dX5_rises_87 ?_
                refine va_getN (ci := 3) (v := .ref hr9) (C := RX3) (T := TX3) (N := 16) hx hb hts hin3 hown hK hP 1 rfl rfl 1 (by decide) (va_Nw.use rfl (hN (.fieldLinkNest "UpAllRound" 78 "UpAllRound$Stair" "rises" "[I" "UpAllRound") (List.mem_of_getElem? (i := 1) rfl))) (fun _ h9 => h9) hft1 dX5_rises_90 ?_
                refine lv_iload_n hx hb dX5_rises_93 rfl (lv_at hl 4 rfl) ?_
                refine lv_iload hx hb dX5_rises_94 (lv_at hl 0 rfl) ?_
                refine zast (t := i) hx hb hK hP hD hS 2 rfl (by omega) (by decide) dX5_rises_96 (fun H locs hP hD hS => ?_)
                have hP : va_P D vwCl [(h, .inr (5, fs)), (hS9, .inr (3, ft)), (hr9, .inl (cI, 14, .inl (upd ((fun x => zri S NU (24 * 0) i (32 + x))) i (((fun x => NU (24 * 0 + x))) i)))), (hE, .inl (cI, 7, .inl E)), (hSh, .inr (2, [.ref hN0, .ref hb9, .ref hz9])), (hN0, .inl (cJ, 4, .inr (.inr (.inr (.inr (zq4 w0 w1 w2 w3)))))), (w0, .inl (cI, 24, .inl ((fun x => NU (24 * 0 + x))))), (w1, .inl (cI, 24, .inl ((fun x => NU (24 * 1 + x))))), (w2, .inl (cI, 24, .inl ((fun x => NU (24 * 2 + x))))), (w3, .inl (cI, 24, .inl ((fun x => NU (24 * 3 + x))))), (hb9, .inl (cI, 4, .inl BT)), (hz9, .inl (cI, 4, .inl SZ))] H := hP
                have hD : va_D AA [(h, .inr (5, fs)), (hS9, .inr (3, ft)), (hr9, .inl (cI, 14, .inl (upd ((fun x => zri S NU (24 * 0) i (32 + x))) i (((fun x => NU (24 * 0 + x))) i)))), (hE, .inl (cI, 7, .inl E)), (hSh, .inr (2, [.ref hN0, .ref hb9, .ref hz9])), (hN0, .inl (cJ, 4, .inr (.inr (.inr (.inr (zq4 w0 w1 w2 w3)))))), (w0, .inl (cI, 24, .inl ((fun x => NU (24 * 0 + x))))), (w1, .inl (cI, 24, .inl ((fun x => NU (24 * 1 + x))))), (w2, .inl (cI, 24, .inl ((fun x => NU (24 * 2 + x))))), (w3, .inl (cI, 24, .inl ((fun x => NU (24 * 3 + x))))), (hb9, .inl (cI, 4, .inl BT)), (hz9, .inl (cI, 4, .inl SZ))] := hD
                refine lv_iinc (v := nI (i + 1)) (lv' := [(3, .int (nI (i + 1))), (4, .int (((fun x => NU (24 * 0 + x))) i)), (0, .ref h), (1, .int (nI 0)), (2, .int (nI (min m n)))]) hx hb dX5_rises_97 hl (k := 4) rfl (nI_add _ _) (by decide) rfl (fun ls hl => ?_)
                refine lv_goto (tgt := 54) hx hb dX5_rises_100 (by decide) ?_
                rw [show upd (fun x => zri S NU (24 * 0) i (32 + x)) i (NU (24 * 0 + i)) = fun x => zri S NU (24 * 0) (i + 1) (32 + x) from by rw [zpr_c, zri_s]] at hP hD
                exact ih_54  (i + 1)  (by omega) (by omega) (by rw [← hz, show min m n - i = (min m n - (i + 1)) + 1 by omega]; exact (zfind_n (P := (zPri NU (24 * 0))) (fun h9 => h9 (by assumption))).symm) ls (lv_sub hl [2, 3, 4, 0] rfl) H locs hP hD hS
              · have c81_4 := bI_nn0.mp c81_4
                refine lv_iload_n hx hb dX5_rises_84 rfl (lv_at hl 4 rfl) ?_
                exact hret hP hD hS dX5_rises_85 rfl (by (have hy : zlk BT (nI 0) = 0 := (by rw [zlk, if_pos (by decide), nI_clamp (show 0 < 2147483648 by omega), if_neg (by assumption)])); (have hf : zfind (zPri NU (24 * 0)) (min m n) 0 = i := (by rw [← hz, show min m n - i = (min m n - (i + 1)) + 1 by omega]; exact zfind_p (P := (zPri NU (24 * 0))) (by first | assumption | exact fun h9 => absurd h9.symm (by assumption)))); rw [show zo_rises S E n k BT SZ NU (nI 0) = (nI i, zri S NU (24 * 0) i, E) from by rw [zo_rises, if_pos hy, nI_clamp (show 0 < 2147483648 by omega), hm, nI_clamp (show m < 2147483648 by omega), hf]]; exact ⟨rfl, rfl⟩)
        exact L_54 ((min m n) + 1) 0  (by omega) (by omega) rfl ls (lv_sub hl [2, 3, 1, 0] rfl) _ _ hP hD hS
      · subst h9
        refine lv_iconst (v := nI 0) hx hb dX5_rises_52 (by decide) ?_
        refine lv_istore_n (lv' := [(3, .int (nI 0)), (2, .int (nI (min m n))), (0, .ref h), (1, .int (nI 1))]) hx hb dX5_rises_53 rfl hl (by decide) rfl (fun ls hl => ?_)
        have hP := zPx (i := 2) (g := (fun x => zri S NU (24 * 1) 0 (32 + x))) hP rfl (fun j _ => (congrFun zri_0 (32 + j)).symm)
        have hD := zDx (i := 2) (g := (fun x => zri S NU (24 * 1) 0 (32 + x))) hD rfl
        have hP : va_P D vwCl [(h, .inr (5, fs)), (hS9, .inr (3, ft)), (hr9, .inl (cI, 14, .inl ((fun x => zri S NU (24 * 1) 0 (32 + x))))), (hE, .inl (cI, 7, .inl E)), (hSh, .inr (2, [.ref hN0, .ref hb9, .ref hz9])), (hN0, .inl (cJ, 4, .inr (.inr (.inr (.inr (zq4 w0 w1 w2 w3)))))), (w0, .inl (cI, 24, .inl ((fun x => NU (24 * 0 + x))))), (w1, .inl (cI, 24, .inl ((fun x => NU (24 * 1 + x))))), (w2, .inl (cI, 24, .inl ((fun x => NU (24 * 2 + x))))), (w3, .inl (cI, 24, .inl ((fun x => NU (24 * 3 + x))))), (hb9, .inl (cI, 4, .inl BT)), (hz9, .inl (cI, 4, .inl SZ))] s.heap := hP
        have hD : va_D AA [(h, .inr (5, fs)), (hS9, .inr (3, ft)), (hr9, .inl (cI, 14, .inl ((fun x => zri S NU (24 * 1) 0 (32 + x))))), (hE, .inl (cI, 7, .inl E)), (hSh, .inr (2, [.ref hN0, .ref hb9, .ref hz9])), (hN0, .inl (cJ, 4, .inr (.inr (.inr (.inr (zq4 w0 w1 w2 w3)))))), (w0, .inl (cI, 24, .inl ((fun x => NU (24 * 0 + x))))), (w1, .inl (cI, 24, .inl ((fun x => NU (24 * 1 + x))))), (w2, .inl (cI, 24, .inl ((fun x => NU (24 * 2 + x))))), (w3, .inl (cI, 24, .inl ((fun x => NU (24 * 3 + x))))), (hb9, .inl (cI, 4, .inl BT)), (hz9, .inl (cI, 4, .inl SZ))] := hD
        have L_54 : ∀ (fu i : Nat)  (hi : i ≤ (min m n)) (hn : (min m n) + 1 ≤ i + fu) (hz : zfind (zPri NU (24 * 1)) (min m n - i) i = zfind (zPri NU (24 * 1)) (min m n) 0), ∀ (ls : Array Slot), lv_has ls 5 [(0, .ref h), (1, .int (nI 1)), (2, .int (nI (min m n))), (3, .int (nI i))] → ∀ (H : Heap) (locs : List Loc), va_P D vwCl [(h, .inr (5, fs)), (hS9, .inr (3, ft)), (hr9, .inl (cI, 14, .inl ((fun x => zri S NU (24 * 1) i (32 + x))))), (hE, .inl (cI, 7, .inl E)), (hSh, .inr (2, [.ref hN0, .ref hb9, .ref hz9])), (hN0, .inl (cJ, 4, .inr (.inr (.inr (.inr (zq4 w0 w1 w2 w3)))))), (w0, .inl (cI, 24, .inl ((fun x => NU (24 * 0 + x))))), (w1, .inl (cI, 24, .inl ((fun x => NU (24 * 1 + x))))), (w2, .inl (cI, 24, .inl ((fun x => NU (24 * 2 + x))))), (w3, .inl (cI, 24, .inl ((fun x => NU (24 * 3 + x))))), (hb9, .inl (cI, 4, .inl BT)), (hz9, .inl (cI, 4, .inl SZ))] H → va_D AA [(h, .inr (5, fs)), (hS9, .inr (3, ft)), (hr9, .inl (cI, 14, .inl ((fun x => zri S NU (24 * 1) i (32 + x))))), (hE, .inl (cI, 7, .inl E)), (hSh, .inr (2, [.ref hN0, .ref hb9, .ref hz9])), (hN0, .inl (cJ, 4, .inr (.inr (.inr (.inr (zq4 w0 w1 w2 w3)))))), (w0, .inl (cI, 24, .inl ((fun x => NU (24 * 0 + x))))), (w1, .inl (cI, 24, .inl ((fun x => NU (24 * 1 + x))))), (w2, .inl (cI, 24, .inl ((fun x => NU (24 * 2 + x))))), (w3, .inl (cI, 24, .inl ((fun x => NU (24 * 3 + x))))), (hb9, .inl (cI, 4, .inl BT)), (hz9, .inl (cI, 4, .inl SZ))] → va_S AA s.heap H locs → W pg l ev ({ frames := 1, cells := 0, slots := 0, locals := 22 } : Room) s mt args below meth cd H locs 0 0 QQ (F0 mt 54 ls []) := by
          intro fu
          induction fu with
          | zero =>
            intro i  hi hn
            exact absurd hn (by omega)
          | succ fu ih_54 =>
            intro i  hi hn hz ls hl H locs hP hD hS
            refine lv_iload_n hx hb dX5_rises_54 rfl (lv_at hl 3 rfl) ?_
            refine lv_iload_n hx hb dX5_rises_55 rfl (lv_at hl 2 rfl) ?_
            refine lv_icmp_ge (tgt := 103) hx hb dX5_rises_56 (by decide) (fun c56_5 => ?_) (fun c56_5 => ?_)
            · have c56_5 : (min m n) ≤ i := (nI_leI (a := min m n) (b := i) (by omega) (by omega)).mp c56_5
              refine lv_iload_n hx hb dX5_rises_103 rfl (lv_at hl 2 rfl) ?_
              exact hret hP hD hS dX5_rises_104 rfl (by (have hy : zlk BT (nI 1) = 0 := (by rw [zlk, if_pos (by decide), nI_clamp (show 1 < 2147483648 by omega), if_neg (by assumption)])); (have hf : zfind (zPri NU (24 * 1)) (min m n) 0 = (min m n) := (by rw [← hz, show min m n - i = 0 by omega]; exact (show i = min m n by omega))); rw [show zo_rises S E n k BT SZ NU (nI 1) = (nI (min m n), zri S NU (24 * 1) (min m n), E) from by rw [zo_rises, if_pos hy, nI_clamp (show 1 < 2147483648 by omega), hm, nI_clamp (show m < 2147483648 by omega), hf]]; exact ⟨rfl, by rw [show i = min m n from by omega]⟩)
            · have c56_5 : ¬ ((min m n) ≤ i) := fun h9 => c56_5 ((nI_leI (a := min m n) (b := i) (by omega) (by omega)).mpr h9)
              refine lv_aload_n hx hb dX5_rises_59 rfl (lv_at hl 0 rfl) ?_
              refine va_get (ci := 5) (v := .ref hSh) (C := RX5) (T := TX5) (N := 9) hx hb hts hin5 hown hK hP 0 rfl rfl 5 (by decide) (hts (.fieldLink RX5 39 "UpAllRound" "sheets" "LUpAllRound$Sheets;") (List.mem_of_getElem? (i := 1) rfl)) (fun _ h9 => h9) hU5 dX5_rises_60 ?_
              refine va_getN (ci := 2) (v := .ref hN0) (C := RX2) (T := TX2) (N := 3) hx hb hts hin2 hown hK hP 4 rfl rfl 0 (by decide) (va_Nw.use rfl (hN (.fieldLinkNest "UpAllRound" 205 "UpAllRound$Sheets" "numbers" "[[I" "UpAllRound") (List.mem_of_getElem? (i := 19) rfl))) (fun _ h9 => h9) rfl dX5_rises_63 ?_
              refine lv_iload_n hx hb dX5_rises_66 rfl (lv_at hl 1 rfl) ?_
              refine zaldq (t := 1) (x := w1) hx hb hK hP 5 rfl (by decide) (by decide) rfl dX5_rises_67 ?_
              refine lv_iload_n hx hb dX5_rises_68 rfl (lv_at hl 3 rfl) ?_
              refine zald (t := i) hx hb hK hP 7 rfl (by omega) (by decide) dX5_rises_69 ?_
              refine lv_istore (lv' := [(4, .int (((fun x => NU (24 * 1 + x))) i)), (0, .ref h), (1, .int (nI 1)), (2, .int (nI (min m n))), (3, .int (nI i))]) hx hb dX5_rises_70 hl (by decide) rfl (fun ls hl => ?_)
              refine lv_iload hx hb dX5_rises_72 (lv_at hl 0 rfl) ?_
              refine lv_bipush (v := (-9)) hx hb dX5_rises_74 (by decide) ?_
              refine lv_bipush (v := nI 9) hx hb dX5_rises_76 (by decide) ?_
              refine zcsE (va_runS (As := [.int (((fun x => NU (24 * 1 + x))) i), .int ((-9)), .int (nI 9)]) (rest := []) ⟨hx, hb, hml, hown, hts⟩ (d_X5_isOutside l D cI cJ (((fun x => NU (24 * 1 + x))) i) ((-9)) (nI 9) ((-9)) 9 (by decide) (by decide) H.size) (va_cwS 3 hts gX5_rises_X5_isOutside rfl rfl rfl (by decide +kernel) ⟨Nat.le_of_ble_eq_true rfl, Nat.le_of_ble_eq_true rfl⟩) (zpS hK hN hZ hP hD hS hA [] rfl (by decide)) rfl rfl hl.1 rfl (lv_room (Nat.le_of_ble_eq_true rfl)) dX5_rises_78 ⟨Nat.zero_le _, Nat.zero_le _⟩) ?_
              refine lv_if_eq (tgt := 86) hx hb dX5_rises_81 (by decide) (fun c81_6 => ?_) (fun c81_6 => ?_)
              · have c81_6 := bI_nX0.mp c81_6
                refine lv_aload_n hx hb dX5_rises_86 rfl (lv_at hl 1 rfl) ?_
                refine va_get (ci := 5) (v := .ref hS9) (C := RX5) (T := TX5) (N := 9) hx hb hts hin5 hown hK hP 0 rfl rfl 0 (by decide) (hts (.fieldLink RX5 12 "UpAllRound" "now" "LUpAllRound$Stair;") (List.mem_of_getElem? (i := 2) rfl)) (fun _ h9 => h9) hU0 dX5_rises_87 ?_
                refine va_getN (ci := 3) (v := .ref hr9) (C := RX3) (T := TX3) (N := 16) hx hb hts hin3 hown hK hP 1 rfl rfl 1 (by decide) (va_Nw.use rfl (hN (.fieldLinkNest "UpAllRound" 78 "UpAllRound$Stair" "rises" "[I" "UpAllRound") (List.mem_of_getElem? (i := 1) rfl))) (fun _ h9 => h9) hft1 dX5_rises_90 ?_
                refine lv_iload_n hx hb dX5_rises_93 rfl (lv_at hl 4 rfl) ?_
                refine lv_iload hx hb dX5_rises_94 (lv_at hl 0 rfl) ?_
                refine zast (t := i) hx hb hK hP hD hS 2 rfl (by omega) (by decide) dX5_rises_96 (fun H locs hP hD hS => ?_)
                have hP : va_P D vwCl [(h, .inr (5, fs)), (hS9, .inr (3, ft)), (hr9, .inl (cI, 14, .inl (upd ((fun x => zri S NU (24 * 1) i (32 + x))) i (((fun x => NU (24 * 1 + x))) i)))), (hE, .inl (cI, 7, .inl E)), (hSh, .inr (2, [.ref hN0, .ref hb9, .ref hz9])), (hN0, .inl (cJ, 4, .inr (.inr (.inr (.inr (zq4 w0 w1 w2 w3)))))), (w0, .inl (cI, 24, .inl ((fun x => NU (24 * 0 + x))))), (w1, .inl (cI, 24, .inl ((fun x => NU (24 * 1 + x))))), (w2, .inl (cI, 24, .inl ((fun x => NU (24 * 2 + x))))), (w3, .inl (cI, 24, .inl ((fun x => NU (24 * 3 + x))))), (hb9, .inl (cI, 4, .inl BT)), (hz9, .inl (cI, 4, .inl SZ))] H := hP
                have hD : va_D AA [(h, .inr (5, fs)), (hS9, .inr (3, ft)), (hr9, .inl (cI, 14, .inl (upd ((fun x => zri S NU (24 * 1) i (32 + x))) i (((fun x => NU (24 * 1 + x))) i)))), (hE, .inl (cI, 7, .inl E)), (hSh, .inr (2, [.ref hN0, .ref hb9, .ref hz9])), (hN0, .inl (cJ, 4, .inr (.inr (.inr (.inr (zq4 w0 w1 w2 w3)))))), (w0, .inl (cI, 24, .inl ((fun x => NU (24 * 0 + x))))), (w1, .inl (cI, 24, .inl ((fun x => NU (24 * 1 + x))))), (w2, .inl (cI, 24, .inl ((fun x => NU (24 * 2 + x))))), (w3, .inl (cI, 24, .inl ((fun x => NU (24 * 3 + x))))), (hb9, .inl (cI, 4, .inl BT)), (hz9, .inl (cI, 4, .inl SZ))] := hD
                refine lv_iinc (v := nI (i + 1)) (lv' := [(3, .int (nI (i + 1))), (4, .int (((fun x => NU (24 * 1 + x))) i)), (0, .ref h), (1, .int (nI 1)), (2, .int (nI (min m n)))]) hx hb dX5_rises_97 hl (k := 4) rfl (nI_add _ _) (by decide) rfl (fun ls hl => ?_)
                refine lv_goto (tgt := 54) hx hb dX5_rises_100 (by decide) ?_
                rw [show upd (fun x => zri S NU (24 * 1) i (32 + x)) i (NU (24 * 1 + i)) = fun x => zri S NU (24 * 1) (i + 1) (32 + x) from by rw [zpr_c, zri_s]] at hP hD
                exact ih_54  (i + 1)  (by omega) (by omega) (by rw [← hz, show min m n - i = (min m n - (i + 1)) + 1 by omega]; exact (zfind_n (P := (zPri NU (24 * 1))) (fun h9 => h9 (by assumption))).symm) ls (lv_sub hl [2, 3, 4, 0] rfl) H locs hP hD hS
              · have c81_6 := bI_nn0.mp c81_6
                refine lv_iload_n hx hb dX5_rises_84 rfl (lv_at hl 4 rfl) ?_
                exact hret hP hD hS dX5_rises_85 rfl (by (have hy : zlk BT (nI 1) = 0 := (by rw [zlk, if_pos (by decide), nI_clamp (show 1 < 2147483648 by omega), if_neg (by assumption)])); (have hf : zfind (zPri NU (24 * 1)) (min m n) 0 = i := (by rw [← hz, show min m n - i = (min m n - (i + 1)) + 1 by omega]; exact zfind_p (P := (zPri NU (24 * 1))) (by first | assumption | exact fun h9 => absurd h9.symm (by assumption)))); rw [show zo_rises S E n k BT SZ NU (nI 1) = (nI i, zri S NU (24 * 1) i, E) from by rw [zo_rises, if_pos hy, nI_clamp (show 1 < 2147483648 by omega), hm, nI_clamp (show m < 2147483648 by omega), hf]]; exact ⟨rfl, rfl⟩)
        exact L_54 ((min m n) + 1) 0  (by omega) (by omega) rfl ls (lv_sub hl [2, 3, 1, 0] rfl) _ _ hP hD hS
      · subst h9
        refine lv_iconst (v := nI 0) hx hb dX5_rises_52 (by decide) ?_
        refine lv_istore_n (lv' := [(3, .int (nI 0)), (2, .int (nI (min m n))), (0, .ref h), (1, .int (nI 2))]) hx hb dX5_rises_53 rfl hl (by decide) rfl (fun ls hl => ?_)
        have hP := zPx (i := 2) (g := (fun x => zri S NU (24 * 2) 0 (32 + x))) hP rfl (fun j _ => (congrFun zri_0 (32 + j)).symm)
        have hD := zDx (i := 2) (g := (fun x => zri S NU (24 * 2) 0 (32 + x))) hD rfl
        have hP : va_P D vwCl [(h, .inr (5, fs)), (hS9, .inr (3, ft)), (hr9, .inl (cI, 14, .inl ((fun x => zri S NU (24 * 2) 0 (32 + x))))), (hE, .inl (cI, 7, .inl E)), (hSh, .inr (2, [.ref hN0, .ref hb9, .ref hz9])), (hN0, .inl (cJ, 4, .inr (.inr (.inr (.inr (zq4 w0 w1 w2 w3)))))), (w0, .inl (cI, 24, .inl ((fun x => NU (24 * 0 + x))))), (w1, .inl (cI, 24, .inl ((fun x => NU (24 * 1 + x))))), (w2, .inl (cI, 24, .inl ((fun x => NU (24 * 2 + x))))), (w3, .inl (cI, 24, .inl ((fun x => NU (24 * 3 + x))))), (hb9, .inl (cI, 4, .inl BT)), (hz9, .inl (cI, 4, .inl SZ))] s.heap := hP
        have hD : va_D AA [(h, .inr (5, fs)), (hS9, .inr (3, ft)), (hr9, .inl (cI, 14, .inl ((fun x => zri S NU (24 * 2) 0 (32 + x))))), (hE, .inl (cI, 7, .inl E)), (hSh, .inr (2, [.ref hN0, .ref hb9, .ref hz9])), (hN0, .inl (cJ, 4, .inr (.inr (.inr (.inr (zq4 w0 w1 w2 w3)))))), (w0, .inl (cI, 24, .inl ((fun x => NU (24 * 0 + x))))), (w1, .inl (cI, 24, .inl ((fun x => NU (24 * 1 + x))))), (w2, .inl (cI, 24, .inl ((fun x => NU (24 * 2 + x))))), (w3, .inl (cI, 24, .inl ((fun x => NU (24 * 3 + x))))), (hb9, .inl (cI, 4, .inl BT)), (hz9, .inl (cI, 4, .inl SZ))] := hD
        have L_54 : ∀ (fu i : Nat)  (hi : i ≤ (min m n)) (hn : (min m n) + 1 ≤ i + fu) (hz : zfind (zPri NU (24 * 2)) (min m n - i) i = zfind (zPri NU (24 * 2)) (min m n) 0), ∀ (ls : Array Slot), lv_has ls 5 [(0, .ref h), (1, .int (nI 2)), (2, .int (nI (min m n))), (3, .int (nI i))] → ∀ (H : Heap) (locs : List Loc), va_P D vwCl [(h, .inr (5, fs)), (hS9, .inr (3, ft)), (hr9, .inl (cI, 14, .inl ((fun x => zri S NU (24 * 2) i (32 + x))))), (hE, .inl (cI, 7, .inl E)), (hSh, .inr (2, [.ref hN0, .ref hb9, .ref hz9])), (hN0, .inl (cJ, 4, .inr (.inr (.inr (.inr (zq4 w0 w1 w2 w3)))))), (w0, .inl (cI, 24, .inl ((fun x => NU (24 * 0 + x))))), (w1, .inl (cI, 24, .inl ((fun x => NU (24 * 1 + x))))), (w2, .inl (cI, 24, .inl ((fun x => NU (24 * 2 + x))))), (w3, .inl (cI, 24, .inl ((fun x => NU (24 * 3 + x))))), (hb9, .inl (cI, 4, .inl BT)), (hz9, .inl (cI, 4, .inl SZ))] H → va_D AA [(h, .inr (5, fs)), (hS9, .inr (3, ft)), (hr9, .inl (cI, 14, .inl ((fun x => zri S NU (24 * 2) i (32 + x))))), (hE, .inl (cI, 7, .inl E)), (hSh, .inr (2, [.ref hN0, .ref hb9, .ref hz9])), (hN0, .inl (cJ, 4, .inr (.inr (.inr (.inr (zq4 w0 w1 w2 w3)))))), (w0, .inl (cI, 24, .inl ((fun x => NU (24 * 0 + x))))), (w1, .inl (cI, 24, .inl ((fun x => NU (24 * 1 + x))))), (w2, .inl (cI, 24, .inl ((fun x => NU (24 * 2 + x))))), (w3, .inl (cI, 24, .inl ((fun x => NU (24 * 3 + x))))), (hb9, .inl (cI, 4, .inl BT)), (hz9, .inl (cI, 4, .inl SZ))] → va_S AA s.heap H locs → W pg l ev ({ frames := 1, cells := 0, slots := 0, locals := 22 } : Room) s mt args below meth cd H locs 0 0 QQ (F0 mt 54 ls []) := by
          intro fu
          induction fu with
          | zero =>
            intro i  hi hn
            exact absurd hn (by omega)
          | succ fu ih_54 =>
            intro i  hi hn hz ls hl H locs hP hD hS
            refine lv_iload_n hx hb dX5_rises_54 rfl (lv_at hl 3 rfl) ?_
            refine lv_iload_n hx hb dX5_rises_55 rfl (lv_at hl 2 rfl) ?_
            refine lv_icmp_ge (tgt := 103) hx hb dX5_rises_56 (by decide) (fun c56_7 => ?_) (fun c56_7 => ?_)
            · have c56_7 : (min m n) ≤ i := (nI_leI (a := min m n) (b := i) (by omega) (by omega)).mp c56_7
              refine lv_iload_n hx hb dX5_rises_103 rfl (lv_at hl 2 rfl) ?_
              exact hret hP hD hS dX5_rises_104 rfl (by (have hy : zlk BT (nI 2) = 0 := (by rw [zlk, if_pos (by decide), nI_clamp (show 2 < 2147483648 by omega), if_neg (by assumption)])); (have hf : zfind (zPri NU (24 * 2)) (min m n) 0 = (min m n) := (by rw [← hz, show min m n - i = 0 by omega]; exact (show i = min m n by omega))); rw [show zo_rises S E n k BT SZ NU (nI 2) = (nI (min m n), zri S NU (24 * 2) (min m n), E) from by rw [zo_rises, if_pos hy, nI_clamp (show 2 < 2147483648 by omega), hm, nI_clamp (show m < 2147483648 by omega), hf]]; exact ⟨rfl, by rw [show i = min m n from by omega]⟩)
            · have c56_7 : ¬ ((min m n) ≤ i) := fun h9 => c56_7 ((nI_leI (a := min m n) (b := i) (by omega) (by omega)).mpr h9)
              refine lv_aload_n hx hb dX5_rises_59 rfl (lv_at hl 0 rfl) ?_
              refine va_get (ci := 5) (v := .ref hSh) (C := RX5) (T := TX5) (N := 9) hx hb hts hin5 hown hK hP 0 rfl rfl 5 (by decide) (hts (.fieldLink RX5 39 "UpAllRound" "sheets" "LUpAllRound$Sheets;") (List.mem_of_getElem? (i := 1) rfl)) (fun _ h9 => h9) hU5 dX5_rises_60 ?_
              refine va_getN (ci := 2) (v := .ref hN0) (C := RX2) (T := TX2) (N := 3) hx hb hts hin2 hown hK hP 4 rfl rfl 0 (by decide) (va_Nw.use rfl (hN (.fieldLinkNest "UpAllRound" 205 "UpAllRound$Sheets" "numbers" "[[I" "UpAllRound") (List.mem_of_getElem? (i := 19) rfl))) (fun _ h9 => h9) rfl dX5_rises_63 ?_
              refine lv_iload_n hx hb dX5_rises_66 rfl (lv_at hl 1 rfl) ?_
              refine zaldq (t := 2) (x := w2) hx hb hK hP 5 rfl (by decide) (by decide) rfl dX5_rises_67 ?_
              refine lv_iload_n hx hb dX5_rises_68 rfl (lv_at hl 3 rfl) ?_
              refine zald (t := i) hx hb hK hP 8 rfl (by omega) (by decide) dX5_rises_69 ?_
              refine lv_istore (lv' := [(4, .int (((fun x => NU (24 * 2 + x))) i)), (0, .ref h), (1, .int (nI 2)), (2, .int (nI (min m n))), (3, .int (nI i))]) hx hb dX5_rises_70 hl (by decide) rfl (fun ls hl => ?_)
              refine lv_iload hx hb dX5_rises_72 (lv_at hl 0 rfl) ?_
              refine lv_bipush (v := (-9)) hx hb dX5_rises_74 (by decide) ?_
              refine lv_bipush (v := nI 9) hx hb dX5_rises_76 (by decide) ?_
              refine zcsE (va_runS (As := [.int (((fun x => NU (24 * 2 + x))) i), .int ((-9)), .int (nI 9)]) (rest := []) ⟨hx, hb, hml, hown, hts⟩ (d_X5_isOutside l D cI cJ (((fun x => NU (24 * 2 + x))) i) ((-9)) (nI 9) ((-9)) 9 (by decide) (by decide) H.size) (va_cwS 3 hts gX5_rises_X5_isOutside rfl rfl rfl (by decide +kernel) ⟨Nat.le_of_ble_eq_true rfl, Nat.le_of_ble_eq_true rfl⟩) (zpS hK hN hZ hP hD hS hA [] rfl (by decide)) rfl rfl hl.1 rfl (lv_room (Nat.le_of_ble_eq_true rfl)) dX5_rises_78 ⟨Nat.zero_le _, Nat.zero_le _⟩) ?_
              refine lv_if_eq (tgt := 86) hx hb dX5_rises_81 (by decide) (fun c81_8 => ?_) (fun c81_8 => ?_)
              · have c81_8 := bI_nX0.mp c81_8
                refine lv_aload_n hx hb dX5_rises_86 rfl (lv_at hl 1 rfl) ?_
                refine va_get (ci := 5) (v := .ref hS9) (C := RX5) (T := TX5) (N := 9) hx hb hts hin5 hown hK hP 0 rfl rfl 0 (by decide) (hts (.fieldLink RX5 12 "UpAllRound" "now" "LUpAllRound$Stair;") (List.mem_of_getElem? (i := 2) rfl)) (fun _ h9 => h9) hU0 dX5_rises_87 ?_
                refine va_getN (ci := 3) (v := .ref hr9) (C := RX3) (T := TX3) (N := 16) hx hb hts hin3 hown hK hP 1 rfl rfl 1 (by decide) (va_Nw.use rfl (hN (.fieldLinkNest "UpAllRound" 78 "UpAllRound$Stair" "rises" "[I" "UpAllRound") (List.mem_of_getElem? (i := 1) rfl))) (fun _ h9 => h9) hft1 dX5_rises_90 ?_
                refine lv_iload_n hx hb dX5_rises_93 rfl (lv_at hl 4 rfl) ?_
                refine lv_iload hx hb dX5_rises_94 (lv_at hl 0 rfl) ?_
                refine zast (t := i) hx hb hK hP hD hS 2 rfl (by omega) (by decide) dX5_rises_96 (fun H locs hP hD hS => ?_)
                have hP : va_P D vwCl [(h, .inr (5, fs)), (hS9, .inr (3, ft)), (hr9, .inl (cI, 14, .inl (upd ((fun x => zri S NU (24 * 2) i (32 + x))) i (((fun x => NU (24 * 2 + x))) i)))), (hE, .inl (cI, 7, .inl E)), (hSh, .inr (2, [.ref hN0, .ref hb9, .ref hz9])), (hN0, .inl (cJ, 4, .inr (.inr (.inr (.inr (zq4 w0 w1 w2 w3)))))), (w0, .inl (cI, 24, .inl ((fun x => NU (24 * 0 + x))))), (w1, .inl (cI, 24, .inl ((fun x => NU (24 * 1 + x))))), (w2, .inl (cI, 24, .inl ((fun x => NU (24 * 2 + x))))), (w3, .inl (cI, 24, .inl ((fun x => NU (24 * 3 + x))))), (hb9, .inl (cI, 4, .inl BT)), (hz9, .inl (cI, 4, .inl SZ))] H := hP
                have hD : va_D AA [(h, .inr (5, fs)), (hS9, .inr (3, ft)), (hr9, .inl (cI, 14, .inl (upd ((fun x => zri S NU (24 * 2) i (32 + x))) i (((fun x => NU (24 * 2 + x))) i)))), (hE, .inl (cI, 7, .inl E)), (hSh, .inr (2, [.ref hN0, .ref hb9, .ref hz9])), (hN0, .inl (cJ, 4, .inr (.inr (.inr (.inr (zq4 w0 w1 w2 w3)))))), (w0, .inl (cI, 24, .inl ((fun x => NU (24 * 0 + x))))), (w1, .inl (cI, 24, .inl ((fun x => NU (24 * 1 + x))))), (w2, .inl (cI, 24, .inl ((fun x => NU (24 * 2 + x))))), (w3, .inl (cI, 24, .inl ((fun x => NU (24 * 3 + x))))), (hb9, .inl (cI, 4, .inl BT)), (hz9, .inl (cI, 4, .inl SZ))] := hD
                refine lv_iinc (v := nI (i + 1)) (lv' := [(3, .int (nI (i + 1))), (4, .int (((fun x => NU (24 * 2 + x))) i)), (0, .ref h), (1, .int (nI 2)), (2, .int (nI (min m n)))]) hx hb dX5_rises_97 hl (k := 4) rfl (nI_add _ _) (by decide) rfl (fun ls hl => ?_)
                refine lv_goto (tgt := 54) hx hb dX5_rises_100 (by decide) ?_
                rw [show upd (fun x => zri S NU (24 * 2) i (32 + x)) i (NU (24 * 2 + i)) = fun x => zri S NU (24 * 2) (i + 1) (32 + x) from by rw [zpr_c, zri_s]] at hP hD
                exact ih_54  (i + 1)  (by omega) (by omega) (by rw [← hz, show min m n - i = (min m n - (i + 1)) + 1 by omega]; exact (zfind_n (P := (zPri NU (24 * 2))) (fun h9 => h9 (by assumption))).symm) ls (lv_sub hl [2, 3, 4, 0] rfl) H locs hP hD hS
              · have c81_8 := bI_nn0.mp c81_8
                refine lv_iload_n hx hb dX5_rises_84 rfl (lv_at hl 4 rfl) ?_
                exact hret hP hD hS dX5_rises_85 rfl (by (have hy : zlk BT (nI 2) = 0 := (by rw [zlk, if_pos (by decide), nI_clamp (show 2 < 2147483648 by omega), if_neg (by assumption)])); (have hf : zfind (zPri NU (24 * 2)) (min m n) 0 = i := (by rw [← hz, show min m n - i = (min m n - (i + 1)) + 1 by omega]; exact zfind_p (P := (zPri NU (24 * 2))) (by first | assumption | exact fun h9 => absurd h9.symm (by assumption)))); rw [show zo_rises S E n k BT SZ NU (nI 2) = (nI i, zri S NU (24 * 2) i, E) from by rw [zo_rises, if_pos hy, nI_clamp (show 2 < 2147483648 by omega), hm, nI_clamp (show m < 2147483648 by omega), hf]]; exact ⟨rfl, rfl⟩)
        exact L_54 ((min m n) + 1) 0  (by omega) (by omega) rfl ls (lv_sub hl [2, 3, 1, 0] rfl) _ _ hP hD hS
      · subst h9
        refine lv_iconst (v := nI 0) hx hb dX5_rises_52 (by decide) ?_
        refine lv_istore_n (lv' := [(3, .int (nI 0)), (2, .int (nI (min m n))), (0, .ref h), (1, .int (nI 3))]) hx hb dX5_rises_53 rfl hl (by decide) rfl (fun ls hl => ?_)
        have hP := zPx (i := 2) (g := (fun x => zri S NU (24 * 3) 0 (32 + x))) hP rfl (fun j _ => (congrFun zri_0 (32 + j)).symm)
        have hD := zDx (i := 2) (g := (fun x => zri S NU (24 * 3) 0 (32 + x))) hD rfl
        have hP : va_P D vwCl [(h, .inr (5, fs)), (hS9, .inr (3, ft)), (hr9, .inl (cI, 14, .inl ((fun x => zri S NU (24 * 3) 0 (32 + x))))), (hE, .inl (cI, 7, .inl E)), (hSh, .inr (2, [.ref hN0, .ref hb9, .ref hz9])), (hN0, .inl (cJ, 4, .inr (.inr (.inr (.inr (zq4 w0 w1 w2 w3)))))), (w0, .inl (cI, 24, .inl ((fun x => NU (24 * 0 + x))))), (w1, .inl (cI, 24, .inl ((fun x => NU (24 * 1 + x))))), (w2, .inl (cI, 24, .inl ((fun x => NU (24 * 2 + x))))), (w3, .inl (cI, 24, .inl ((fun x => NU (24 * 3 + x))))), (hb9, .inl (cI, 4, .inl BT)), (hz9, .inl (cI, 4, .inl SZ))] s.heap := hP
        have hD : va_D AA [(h, .inr (5, fs)), (hS9, .inr (3, ft)), (hr9, .inl (cI, 14, .inl ((fun x => zri S NU (24 * 3) 0 (32 + x))))), (hE, .inl (cI, 7, .inl E)), (hSh, .inr (2, [.ref hN0, .ref hb9, .ref hz9])), (hN0, .inl (cJ, 4, .inr (.inr (.inr (.inr (zq4 w0 w1 w2 w3)))))), (w0, .inl (cI, 24, .inl ((fun x => NU (24 * 0 + x))))), (w1, .inl (cI, 24, .inl ((fun x => NU (24 * 1 + x))))), (w2, .inl (cI, 24, .inl ((fun x => NU (24 * 2 + x))))), (w3, .inl (cI, 24, .inl ((fun x => NU (24 * 3 + x))))), (hb9, .inl (cI, 4, .inl BT)), (hz9, .inl (cI, 4, .inl SZ))] := hD
        have L_54 : ∀ (fu i : Nat)  (hi : i ≤ (min m n)) (hn : (min m n) + 1 ≤ i + fu) (hz : zfind (zPri NU (24 * 3)) (min m n - i) i = zfind (zPri NU (24 * 3)) (min m n) 0), ∀ (ls : Array Slot), lv_has ls 5 [(0, .ref h), (1, .int (nI 3)), (2, .int (nI (min m n))), (3, .int (nI i))] → ∀ (H : Heap) (locs : List Loc), va_P D vwCl [(h, .inr (5, fs)), (hS9, .inr (3, ft)), (hr9, .inl (cI, 14, .inl ((fun x => zri S NU (24 * 3) i (32 + x))))), (hE, .inl (cI, 7, .inl E)), (hSh, .inr (2, [.ref hN0, .ref hb9, .ref hz9])), (hN0, .inl (cJ, 4, .inr (.inr (.inr (.inr (zq4 w0 w1 w2 w3)))))), (w0, .inl (cI, 24, .inl ((fun x => NU (24 * 0 + x))))), (w1, .inl (cI, 24, .inl ((fun x => NU (24 * 1 + x))))), (w2, .inl (cI, 24, .inl ((fun x => NU (24 * 2 + x))))), (w3, .inl (cI, 24, .inl ((fun x => NU (24 * 3 + x))))), (hb9, .inl (cI, 4, .inl BT)), (hz9, .inl (cI, 4, .inl SZ))] H → va_D AA [(h, .inr (5, fs)), (hS9, .inr (3, ft)), (hr9, .inl (cI, 14, .inl ((fun x => zri S NU (24 * 3) i (32 + x))))), (hE, .inl (cI, 7, .inl E)), (hSh, .inr (2, [.ref hN0, .ref hb9, .ref hz9])), (hN0, .inl (cJ, 4, .inr (.inr (.inr (.inr (zq4 w0 w1 w2 w3)))))), (w0, .inl (cI, 24, .inl ((fun x => NU (24 * 0 + x))))), (w1, .inl (cI, 24, .inl ((fun x => NU (24 * 1 + x))))), (w2, .inl (cI, 24, .inl ((fun x => NU (24 * 2 + x))))), (w3, .inl (cI, 24, .inl ((fun x => NU (24 * 3 + x))))), (hb9, .inl (cI, 4, .inl BT)), (hz9, .inl (cI, 4, .inl SZ))] → va_S AA s.heap H locs → W pg l ev ({ frames := 1, cells := 0, slots := 0, locals := 22 } : Room) s mt args below meth cd H locs 0 0 QQ (F0 mt 54 ls []) := by
          intro fu
          induction fu with
          | zero =>
            intro i  hi hn
            exact absurd hn (by omega)
          | succ fu ih_54 =>
            intro i  hi hn hz ls hl H locs hP hD hS
            refine lv_iload_n hx hb dX5_rises_54 rfl (lv_at hl 3 rfl) ?_
            refine lv_iload_n hx hb dX5_rises_55 rfl (lv_at hl 2 rfl) ?_
            refine lv_icmp_ge (tgt := 103) hx hb dX5_rises_56 (by decide) (fun c56_9 => ?_) (fun c56_9 => ?_)
            · have c56_9 : (min m n) ≤ i := (nI_leI (a := min m n) (b := i) (by omega) (by omega)).mp c56_9
              refine lv_iload_n hx hb dX5_rises_103 rfl (lv_at hl 2 rfl) ?_
              exact hret hP hD hS dX5_rises_104 rfl (by (have hy : zlk BT (nI 3) = 0 := (by rw [zlk, if_pos (by decide), nI_clamp (show 3 < 2147483648 by omega), if_neg (by assumption)])); (have hf : zfind (zPri NU (24 * 3)) (min m n) 0 = (min m n) := (by rw [← hz, show min m n - i = 0 by omega]; exact (show i = min m n by omega))); rw [show zo_rises S E n k BT SZ NU (nI 3) = (nI (min m n), zri S NU (24 * 3) (min m n), E) from by rw [zo_rises, if_pos hy, nI_clamp (show 3 < 2147483648 by omega), hm, nI_clamp (show m < 2147483648 by omega), hf]]; exact ⟨rfl, by rw [show i = min m n from by omega]⟩)
            · have c56_9 : ¬ ((min m n) ≤ i) := fun h9 => c56_9 ((nI_leI (a := min m n) (b := i) (by omega) (by omega)).mpr h9)
              refine lv_aload_n hx hb dX5_rises_59 rfl (lv_at hl 0 rfl) ?_
              refine va_get (ci := 5) (v := .ref hSh) (C := RX5) (T := TX5) (N := 9) hx hb hts hin5 hown hK hP 0 rfl rfl 5 (by decide) (hts (.fieldLink RX5 39 "UpAllRound" "sheets" "LUpAllRound$Sheets;") (List.mem_of_getElem? (i := 1) rfl)) (fun _ h9 => h9) hU5 dX5_rises_60 ?_
              refine va_getN (ci := 2) (v := .ref hN0) (C := RX2) (T := TX2) (N := 3) hx hb hts hin2 hown hK hP 4 rfl rfl 0 (by decide) (va_Nw.use rfl (hN (.fieldLinkNest "UpAllRound" 205 "UpAllRound$Sheets" "numbers" "[[I" "UpAllRound") (List.mem_of_getElem? (i := 19) rfl))) (fun _ h9 => h9) rfl dX5_rises_63 ?_
              refine lv_iload_n hx hb dX5_rises_66 rfl (lv_at hl 1 rfl) ?_
              refine zaldq (t := 3) (x := w3) hx hb hK hP 5 rfl (by decide) (by decide) rfl dX5_rises_67 ?_
              refine lv_iload_n hx hb dX5_rises_68 rfl (lv_at hl 3 rfl) ?_
              refine zald (t := i) hx hb hK hP 9 rfl (by omega) (by decide) dX5_rises_69 ?_
              refine lv_istore (lv' := [(4, .int (((fun x => NU (24 * 3 + x))) i)), (0, .ref h), (1, .int (nI 3)), (2, .int (nI (min m n))), (3, .int (nI i))]) hx hb dX5_rises_70 hl (by decide) rfl (fun ls hl => ?_)
              refine lv_iload hx hb dX5_rises_72 (lv_at hl 0 rfl) ?_
              refine lv_bipush (v := (-9)) hx hb dX5_rises_74 (by decide) ?_
              refine lv_bipush (v := nI 9) hx hb dX5_rises_76 (by decide) ?_
              refine zcsE (va_runS (As := [.int (((fun x => NU (24 * 3 + x))) i), .int ((-9)), .int (nI 9)]) (rest := []) ⟨hx, hb, hml, hown, hts⟩ (d_X5_isOutside l D cI cJ (((fun x => NU (24 * 3 + x))) i) ((-9)) (nI 9) ((-9)) 9 (by decide) (by decide) H.size) (va_cwS 3 hts gX5_rises_X5_isOutside rfl rfl rfl (by decide +kernel) ⟨Nat.le_of_ble_eq_true rfl, Nat.le_of_ble_eq_true rfl⟩) (zpS hK hN hZ hP hD hS hA [] rfl (by decide)) rfl rfl hl.1 rfl (lv_room (Nat.le_of_ble_eq_true rfl)) dX5_rises_78 ⟨Nat.zero_le _, Nat.zero_le _⟩) ?_
              refine lv_if_eq (tgt := 86) hx hb dX5_rises_81 (by decide) (fun c81_10 => ?_) (fun c81_10 => ?_)
              · have c81_10 := bI_nX0.mp c81_10
                refine lv_aload_n hx hb dX5_rises_86 rfl (lv_at hl 1 rfl) ?_
                refine va_get (ci := 5) (v := .ref hS9) (C := RX5) (T := TX5) (N := 9) hx hb hts hin5 hown hK hP 0 rfl rfl 0 (by decide) (hts (.fieldLink RX5 12 "UpAllRound" "now" "LUpAllRound$Stair;") (List.mem_of_getElem? (i := 2) rfl)) (fun _ h9 => h9) hU0 dX5_rises_87 ?_
                refine va_getN (ci := 3) (v := .ref hr9) (C := RX3) (T := TX3) (N := 16) hx hb hts hin3 hown hK hP 1 rfl rfl 1 (by decide) (va_Nw.use rfl (hN (.fieldLinkNest "UpAllRound" 78 "UpAllRound$Stair" "rises" "[I" "UpAllRound") (List.mem_of_getElem? (i := 1) rfl))) (fun _ h9 => h9) hft1 dX5_rises_90 ?_
                refine lv_iload_n hx hb dX5_rises_93 rfl (lv_at hl 4 rfl) ?_
                refine lv_iload hx hb dX5_rises_94 (lv_at hl 0 rfl) ?_
                refine zast (t := i) hx hb hK hP hD hS 2 rfl (by omega) (by decide) dX5_rises_96 (fun H locs hP hD hS => ?_)
                have hP : va_P D vwCl [(h, .inr (5, fs)), (hS9, .inr (3, ft)), (hr9, .inl (cI, 14, .inl (upd ((fun x => zri S NU (24 * 3) i (32 + x))) i (((fun x => NU (24 * 3 + x))) i)))), (hE, .inl (cI, 7, .inl E)), (hSh, .inr (2, [.ref hN0, .ref hb9, .ref hz9])), (hN0, .inl (cJ, 4, .inr (.inr (.inr (.inr (zq4 w0 w1 w2 w3)))))), (w0, .inl (cI, 24, .inl ((fun x => NU (24 * 0 + x))))), (w1, .inl (cI, 24, .inl ((fun x => NU (24 * 1 + x))))), (w2, .inl (cI, 24, .inl ((fun x => NU (24 * 2 + x))))), (w3, .inl (cI, 24, .inl ((fun x => NU (24 * 3 + x))))), (hb9, .inl (cI, 4, .inl BT)), (hz9, .inl (cI, 4, .inl SZ))] H := hP
                have hD : va_D AA [(h, .inr (5, fs)), (hS9, .inr (3, ft)), (hr9, .inl (cI, 14, .inl (upd ((fun x => zri S NU (24 * 3) i (32 + x))) i (((fun x => NU (24 * 3 + x))) i)))), (hE, .inl (cI, 7, .inl E)), (hSh, .inr (2, [.ref hN0, .ref hb9, .ref hz9])), (hN0, .inl (cJ, 4, .inr (.inr (.inr (.inr (zq4 w0 w1 w2 w3)))))), (w0, .inl (cI, 24, .inl ((fun x => NU (24 * 0 + x))))), (w1, .inl (cI, 24, .inl ((fun x => NU (24 * 1 + x))))), (w2, .inl (cI, 24, .inl ((fun x => NU (24 * 2 + x))))), (w3, .inl (cI, 24, .inl ((fun x => NU (24 * 3 + x))))), (hb9, .inl (cI, 4, .inl BT)), (hz9, .inl (cI, 4, .inl SZ))] := hD
                refine lv_iinc (v := nI (i + 1)) (lv' := [(3, .int (nI (i + 1))), (4, .int (((fun x => NU (24 * 3 + x))) i)), (0, .ref h), (1, .int (nI 3)), (2, .int (nI (min m n)))]) hx hb dX5_rises_97 hl (k := 4) rfl (nI_add _ _) (by decide) rfl (fun ls hl => ?_)
                refine lv_goto (tgt := 54) hx hb dX5_rises_100 (by decide) ?_
                rw [show upd (fun x => zri S NU (24 * 3) i (32 + x)) i (NU (24 * 3 + i)) = fun x => zri S NU (24 * 3) (i + 1) (32 + x) from by rw [zpr_c, zri_s]] at hP hD
                exact ih_54  (i + 1)  (by omega) (by omega) (by rw [← hz, show min m n - i = (min m n - (i + 1)) + 1 by omega]; exact (zfind_n (P := (zPri NU (24 * 3))) (fun h9 => h9 (by assumption))).symm) ls (lv_sub hl [2, 3, 4, 0] rfl) H locs hP hD hS
              · have c81_10 := bI_nn0.mp c81_10
                refine lv_iload_n hx hb dX5_rises_84 rfl (lv_at hl 4 rfl) ?_
                exact hret hP hD hS dX5_rises_85 rfl (by (have hy : zlk BT (nI 3) = 0 := (by rw [zlk, if_pos (by decide), nI_clamp (show 3 < 2147483648 by omega), if_neg (by assumption)])); (have hf : zfind (zPri NU (24 * 3)) (min m n) 0 = i := (by rw [← hz, show min m n - i = (min m n - (i + 1)) + 1 by omega]; exact zfind_p (P := (zPri NU (24 * 3))) (by first | assumption | exact fun h9 => absurd h9.symm (by assumption)))); rw [show zo_rises S E n k BT SZ NU (nI 3) = (nI i, zri S NU (24 * 3) i, E) from by rw [zo_rises, if_pos hy, nI_clamp (show 3 < 2147483648 by omega), hm, nI_clamp (show m < 2147483648 by omega), hf]]; exact ⟨rfl, rfl⟩)
        exact L_54 ((min m n) + 1) 0  (by omega) (by omega) rfl ls (lv_sub hl [2, 3, 1, 0] rfl) _ _ hP hD hS
    · have c23_2 := bI_n0.mp c23_2
      refine lv_aload_n hx hb dX5_rises_26 rfl (lv_at hl 0 rfl) ?_
      refine lv_iconst (v := nI 2) hx hb dX5_rises_27 (by decide) ?_
      refine zci (wr := [(hS9, .inr (3, ft)), (hr9, .inl (cI, 14, .inl ((fun i => S (32 + i))))), (hSh, .inr (2, [.ref hN0, .ref hb9, .ref hz9])), (hN0, .inl (cJ, 4, .inr (.inr (.inr (.inr (zq4 w0 w1 w2 w3)))))), (w0, .inl (cI, 24, .inl ((fun x => NU (24 * 0 + x))))), (w1, .inl (cI, 24, .inl ((fun x => NU (24 * 1 + x))))), (w2, .inl (cI, 24, .inl ((fun x => NU (24 * 2 + x))))), (w3, .inl (cI, 24, .inl ((fun x => NU (24 * 3 + x))))), (hb9, .inl (cI, 4, .inl BT)), (hz9, .inl (cI, 4, .inl SZ))]) (va_runV (As := [.int (nI 2)]) (rest := []) ⟨hx, hb, hml, hown, hts⟩ (c_X5_refuse l D cI cJ h hE fs E 2 (by first | rfl | assumption | omega) (by first | rfl | assumption | omega) s.heap.size) (cwV 1 hts gX5_rises_X5_refuse rfl rfl rfl (by decide +kernel) ⟨Nat.le_of_ble_eq_true rfl, Nat.le_of_ble_eq_true rfl⟩) (zpV hK hN hZ hP hD hS hA [0, 3] rfl (by decide) 0 rfl rfl rfl) rfl rfl hl.1 rfl (lv_room (Nat.le_of_ble_eq_true rfl)) dX5_rises_28 ⟨Nat.zero_le _, Nat.zero_le _⟩) hP hD hS hA [0, 3] [1, 2, 4, 5, 6, 7, 8, 9, 10, 11] rfl rfl (by decide) (by decide) (fun r_13 w_12 H locs h_11 hP hD hS => ?_)
      obtain ⟨rfl, rfl⟩ := h_11
      have hP : va_P D vwCl [(hS9, .inr (3, ft)), (hr9, .inl (cI, 14, .inl ((fun i => S (32 + i))))), (hSh, .inr (2, [.ref hN0, .ref hb9, .ref hz9])), (hN0, .inl (cJ, 4, .inr (.inr (.inr (.inr (zq4 w0 w1 w2 w3)))))), (w0, .inl (cI, 24, .inl ((fun x => NU (24 * 0 + x))))), (w1, .inl (cI, 24, .inl ((fun x => NU (24 * 1 + x))))), (w2, .inl (cI, 24, .inl ((fun x => NU (24 * 2 + x))))), (w3, .inl (cI, 24, .inl ((fun x => NU (24 * 3 + x))))), (hb9, .inl (cI, 4, .inl BT)), (hz9, .inl (cI, 4, .inl SZ)), (h, .inr (5, fs)), (hE, .inl (cI, 7, .inl (upd E 2 (E 2 + nI 1))))] H := hP
      have hD : va_D AA [(hS9, .inr (3, ft)), (hr9, .inl (cI, 14, .inl ((fun i => S (32 + i))))), (hSh, .inr (2, [.ref hN0, .ref hb9, .ref hz9])), (hN0, .inl (cJ, 4, .inr (.inr (.inr (.inr (zq4 w0 w1 w2 w3)))))), (w0, .inl (cI, 24, .inl ((fun x => NU (24 * 0 + x))))), (w1, .inl (cI, 24, .inl ((fun x => NU (24 * 1 + x))))), (w2, .inl (cI, 24, .inl ((fun x => NU (24 * 2 + x))))), (w3, .inl (cI, 24, .inl ((fun x => NU (24 * 3 + x))))), (hb9, .inl (cI, 4, .inl BT)), (hz9, .inl (cI, 4, .inl SZ)), (h, .inr (5, fs)), (hE, .inl (cI, 7, .inl (upd E 2 (E 2 + nI 1))))] := hD
      have hP := hP.sub (ws' := [(h, .inr (5, fs)), (hS9, .inr (3, ft)), (hr9, .inl (cI, 14, .inl ((fun i => S (32 + i))))), (hE, .inl (cI, 7, .inl (upd E 2 (E 2 + nI 1)))), (hSh, .inr (2, [.ref hN0, .ref hb9, .ref hz9])), (hN0, .inl (cJ, 4, .inr (.inr (.inr (.inr (zq4 w0 w1 w2 w3)))))), (w0, .inl (cI, 24, .inl ((fun x => NU (24 * 0 + x))))), (w1, .inl (cI, 24, .inl ((fun x => NU (24 * 1 + x))))), (w2, .inl (cI, 24, .inl ((fun x => NU (24 * 2 + x))))), (w3, .inl (cI, 24, .inl ((fun x => NU (24 * 3 + x))))), (hb9, .inl (cI, 4, .inl BT)), (hz9, .inl (cI, 4, .inl SZ))]) [10, 0, 1, 11, 2, 3, 4, 5, 6, 7, 8, 9] rfl
      have hD := hD.sub (ws' := [(h, .inr (5, fs)), (hS9, .inr (3, ft)), (hr9, .inl (cI, 14, .inl ((fun i => S (32 + i))))), (hE, .inl (cI, 7, .inl (upd E 2 (E 2 + nI 1)))), (hSh, .inr (2, [.ref hN0, .ref hb9, .ref hz9])), (hN0, .inl (cJ, 4, .inr (.inr (.inr (.inr (zq4 w0 w1 w2 w3)))))), (w0, .inl (cI, 24, .inl ((fun x => NU (24 * 0 + x))))), (w1, .inl (cI, 24, .inl ((fun x => NU (24 * 1 + x))))), (w2, .inl (cI, 24, .inl ((fun x => NU (24 * 2 + x))))), (w3, .inl (cI, 24, .inl ((fun x => NU (24 * 3 + x))))), (hb9, .inl (cI, 4, .inl BT)), (hz9, .inl (cI, 4, .inl SZ))]) [10, 0, 1, 11, 2, 3, 4, 5, 6, 7, 8, 9] (by decide) rfl
      exact hret hP hD hS dX5_rises_31 rfl (by (have hy : zlk BT (nI q) = 2 := (by rw [zlk, if_pos hz1, nI_clamp (show q < 2147483648 by omega), if_pos (by assumption)])); rw [show zo_rises S E n k BT SZ NU (nI q) = zerrE 2 S E from by rw [zo_rises, hy, if_neg (by decide)]]; exact ⟨rfl, rfl⟩)
  · have c6_1 := bI_nn0.mp c6_1
    refine lv_aload_n hx hb dX5_rises_9 rfl (lv_at hl 0 rfl) ?_
    refine lv_iconst (v := nI 1) hx hb dX5_rises_10 (by decide) ?_
    refine zci (wr := [(hS9, .inr (3, ft)), (hr9, .inl (cI, 14, .inl ((fun i => S (32 + i))))), (hSh, .inr (2, [.ref hN0, .ref hb9, .ref hz9])), (hN0, .inl (cJ, 4, .inr (.inr (.inr (.inr (zq4 w0 w1 w2 w3)))))), (w0, .inl (cI, 24, .inl ((fun x => NU (24 * 0 + x))))), (w1, .inl (cI, 24, .inl ((fun x => NU (24 * 1 + x))))), (w2, .inl (cI, 24, .inl ((fun x => NU (24 * 2 + x))))), (w3, .inl (cI, 24, .inl ((fun x => NU (24 * 3 + x))))), (hb9, .inl (cI, 4, .inl BT)), (hz9, .inl (cI, 4, .inl SZ))]) (va_runV (As := [.int (nI 1)]) (rest := []) ⟨hx, hb, hml, hown, hts⟩ (c_X5_refuse l D cI cJ h hE fs E 1 (by first | rfl | assumption | omega) (by first | rfl | assumption | omega) s.heap.size) (cwV 1 hts gX5_rises_X5_refuse rfl rfl rfl (by decide +kernel) ⟨Nat.le_of_ble_eq_true rfl, Nat.le_of_ble_eq_true rfl⟩) (zpV hK hN hZ hP hD hS hA [0, 3] rfl (by decide) 0 rfl rfl rfl) rfl rfl hl.1 rfl (lv_room (Nat.le_of_ble_eq_true rfl)) dX5_rises_11 ⟨Nat.zero_le _, Nat.zero_le _⟩) hP hD hS hA [0, 3] [1, 2, 4, 5, 6, 7, 8, 9, 10, 11] rfl rfl (by decide) (by decide) (fun r_16 w_15 H locs h_14 hP hD hS => ?_)
    obtain ⟨rfl, rfl⟩ := h_14
    have hP : va_P D vwCl [(hS9, .inr (3, ft)), (hr9, .inl (cI, 14, .inl ((fun i => S (32 + i))))), (hSh, .inr (2, [.ref hN0, .ref hb9, .ref hz9])), (hN0, .inl (cJ, 4, .inr (.inr (.inr (.inr (zq4 w0 w1 w2 w3)))))), (w0, .inl (cI, 24, .inl ((fun x => NU (24 * 0 + x))))), (w1, .inl (cI, 24, .inl ((fun x => NU (24 * 1 + x))))), (w2, .inl (cI, 24, .inl ((fun x => NU (24 * 2 + x))))), (w3, .inl (cI, 24, .inl ((fun x => NU (24 * 3 + x))))), (hb9, .inl (cI, 4, .inl BT)), (hz9, .inl (cI, 4, .inl SZ)), (h, .inr (5, fs)), (hE, .inl (cI, 7, .inl (upd E 1 (E 1 + nI 1))))] H := hP
    have hD : va_D AA [(hS9, .inr (3, ft)), (hr9, .inl (cI, 14, .inl ((fun i => S (32 + i))))), (hSh, .inr (2, [.ref hN0, .ref hb9, .ref hz9])), (hN0, .inl (cJ, 4, .inr (.inr (.inr (.inr (zq4 w0 w1 w2 w3)))))), (w0, .inl (cI, 24, .inl ((fun x => NU (24 * 0 + x))))), (w1, .inl (cI, 24, .inl ((fun x => NU (24 * 1 + x))))), (w2, .inl (cI, 24, .inl ((fun x => NU (24 * 2 + x))))), (w3, .inl (cI, 24, .inl ((fun x => NU (24 * 3 + x))))), (hb9, .inl (cI, 4, .inl BT)), (hz9, .inl (cI, 4, .inl SZ)), (h, .inr (5, fs)), (hE, .inl (cI, 7, .inl (upd E 1 (E 1 + nI 1))))] := hD
    have hP := hP.sub (ws' := [(h, .inr (5, fs)), (hS9, .inr (3, ft)), (hr9, .inl (cI, 14, .inl ((fun i => S (32 + i))))), (hE, .inl (cI, 7, .inl (upd E 1 (E 1 + nI 1)))), (hSh, .inr (2, [.ref hN0, .ref hb9, .ref hz9])), (hN0, .inl (cJ, 4, .inr (.inr (.inr (.inr (zq4 w0 w1 w2 w3)))))), (w0, .inl (cI, 24, .inl ((fun x => NU (24 * 0 + x))))), (w1, .inl (cI, 24, .inl ((fun x => NU (24 * 1 + x))))), (w2, .inl (cI, 24, .inl ((fun x => NU (24 * 2 + x))))), (w3, .inl (cI, 24, .inl ((fun x => NU (24 * 3 + x))))), (hb9, .inl (cI, 4, .inl BT)), (hz9, .inl (cI, 4, .inl SZ))]) [10, 0, 1, 11, 2, 3, 4, 5, 6, 7, 8, 9] rfl
    have hD := hD.sub (ws' := [(h, .inr (5, fs)), (hS9, .inr (3, ft)), (hr9, .inl (cI, 14, .inl ((fun i => S (32 + i))))), (hE, .inl (cI, 7, .inl (upd E 1 (E 1 + nI 1)))), (hSh, .inr (2, [.ref hN0, .ref hb9, .ref hz9])), (hN0, .inl (cJ, 4, .inr (.inr (.inr (.inr (zq4 w0 w1 w2 w3)))))), (w0, .inl (cI, 24, .inl ((fun x => NU (24 * 0 + x))))), (w1, .inl (cI, 24, .inl ((fun x => NU (24 * 1 + x))))), (w2, .inl (cI, 24, .inl ((fun x => NU (24 * 2 + x))))), (w3, .inl (cI, 24, .inl ((fun x => NU (24 * 3 + x))))), (hb9, .inl (cI, 4, .inl BT)), (hz9, .inl (cI, 4, .inl SZ))]) [10, 0, 1, 11, 2, 3, 4, 5, 6, 7, 8, 9] (by decide) rfl
    exact hret hP hD hS dX5_rises_14 rfl (by (have hy : zlk BT sh = 1 := if_neg (by assumption)); rw [show zo_rises S E n k BT SZ NU sh = zerrE 1 S E from by rw [zo_rises, hy, if_neg (by decide)]]; exact ⟨rfl, rfl⟩)
set_option maxHeartbeats 4000000 in
set_option maxRecDepth 100000 in
theorem c_X5_judge (l : Launch) (D : va_G) (cI cJ : ClassId) (h : Nat) (hE : Nat) (hS9 : Nat) (fs : List Value) (S : Nat → Int32) (E : Nat → Int32) (n : Nat) (k : Nat) (ft : List Value) (hp : Nat) (hSh : Nat) (hN0 : Nat) (w0 : Nat) (w1 : Nat) (w2 : Nat) (w3 : Nat) (hb9 : Nat) (hz9 : Nat) (BT : Nat → Int32) (SZ : Nat → Int32) (NU : Nat → Int32) (sh : Int32) (hU0 : fs[0]? = some (.ref hS9)) (hU7 : fs[7]? = some (.ref hE)) (hn1 : S 1 = nI n) (hk6 : S 6 = nI k) (hn4 : 4 ≤ n) (hn14 : n ≤ 14) (hkle : k ≤ 6) (hft4 : ft[4]? = some (.int (nI k))) (hft7 : ft[7]? = some (.ref hp)) (hU5 : fs[5]? = some (.ref hSh)) (hsz : ∀ i, i < 4 → ∃ m : Nat, SZ i = nI m ∧ m ≤ 24) : zMi l yX5_judge wsX5_judge ({ frames := 1, cells := 0, slots := 0, locals := 22 } : Room) D [(cI, .int), (cJ, .array .int)] [.ref h, .int sh] [(h, .inr (5, fs)), (hS9, .inr (3, ft)), (hp, .inl (cI, 6, .inl ((fun c => S (8 + 4 * c + 2))))), (hE, .inl (cI, 7, .inl E)), (hSh, .inr (2, [.ref hN0, .ref hb9, .ref hz9])), (hN0, .inl (cJ, 4, .inr (.inr (.inr (.inr (zq4 w0 w1 w2 w3)))))), (w0, .inl (cI, 24, .inl ((fun x => NU (24 * 0 + x))))), (w1, .inl (cI, 24, .inl ((fun x => NU (24 * 1 + x))))), (w2, .inl (cI, 24, .inl ((fun x => NU (24 * 2 + x))))), (w3, .inl (cI, 24, .inl ((fun x => NU (24 * 3 + x))))), (hb9, .inl (cI, 4, .inl BT)), (hz9, .inl (cI, 4, .inl SZ))] (fun r w => r = (zo_judge S E n k BT SZ NU sh).1 ∧ w = [(h, .inr (5, fs)), (hS9, .inr (3, ft)), (hp, .inl (cI, 6, .inl ((fun c => S (8 + 4 * c + 2))))), (hE, .inl (cI, 7, .inl ((zo_judge S E n k BT SZ NU sh).2.2))), (hSh, .inr (2, [.ref hN0, .ref hb9, .ref hz9])), (hN0, .inl (cJ, 4, .inr (.inr (.inr (.inr (zq4 w0 w1 w2 w3)))))), (w0, .inl (cI, 24, .inl ((fun x => NU (24 * 0 + x))))), (w1, .inl (cI, 24, .inl ((fun x => NU (24 * 1 + x))))), (w2, .inl (cI, 24, .inl ((fun x => NU (24 * 2 + x))))), (w3, .inl (cI, 24, .inl ((fun x => NU (24 * 3 + x))))), (hb9, .inl (cI, 4, .inl BT)), (hz9, .inl (cI, 4, .inl SZ))]) := by
  refine zMi.start (cc := cX5_judge) (maxL := 4) (rt := .int) (by first | decide | decide +kernel) rfl (Nat.le_of_ble_eq_true rfl) ?_
  intro pg ev s mt args below meth cd ls AA QQ ⟨hx, hb, hml, hr, hlocks, hown, hts, hK, hN, hZ, hP, hD, hA, hS, hl⟩ hret
  have hown : s.vm.findClass RX5 = some mt.cls := hown
  have hl : lv_has ls 4 [(0, .ref h), (1, .int sh)] := hl
  have hin2 : ∀ w ∈ wsX20, w ∈ wsX5_judge := fun w h => List.mem_cons_of_mem _ (List.mem_append_left _ (List.mem_append_right _ (h)))
  have hin3 : ∀ w ∈ wsX30, w ∈ wsX5_judge := fun w h => List.mem_cons_of_mem _ (List.mem_append_right _ (h))
  have hin5 : ∀ w ∈ wsX50, w ∈ wsX5_judge := fun w h => List.mem_cons_of_mem _ (List.mem_append_left _ (List.mem_append_left _ (List.mem_append_right _ (h))))
  refine lv_iload_n hx hb dX5_judge_0 rfl (lv_at hl 1 rfl) ?_
  refine lv_iconst (v := nI 0) hx hb dX5_judge_1 (by decide) ?_
  refine lv_iconst (v := nI 3) hx hb dX5_judge_2 (by decide) ?_
  refine zcsE (va_runS (As := [.int sh, .int (nI 0), .int (nI 3)]) (rest := []) ⟨hx, hb, hml, hown, hts⟩ (d_X5_isOutside l D cI cJ sh (nI 0) (nI 3) 0 3 (by decide) (by decide) s.heap.size) (va_cwS 3 hts gX5_judge_X5_isOutside rfl rfl rfl (by decide +kernel) ⟨Nat.le_of_ble_eq_true rfl, Nat.le_of_ble_eq_true rfl⟩) (zpS hK hN hZ hP hD hS hA [] rfl (by decide)) rfl rfl hl.1 rfl (lv_room (Nat.le_of_ble_eq_true rfl)) dX5_judge_3 ⟨Nat.zero_le _, Nat.zero_le _⟩) ?_
  refine lv_if_eq (tgt := 15) hx hb dX5_judge_6 (by decide) (fun c6_1 => ?_) (fun c6_1 => ?_)
  · have c6_1 := bI_nX0.mp c6_1
    have hz1 := c6_1
    obtain ⟨q, h_q, rfl⟩ : ∃ q : Nat, q ≤ 3 ∧ sh = nI q := zrg_of c6_1 (by decide)
    obtain ⟨m, hm, hm24⟩ := hsz q (by omega)
    refine lv_aload_n hx hb dX5_judge_15 rfl (lv_at hl 0 rfl) ?_
    refine va_get (ci := 5) (v := .ref hSh) (C := RX5) (T := TX5) (N := 9) hx hb hts hin5 hown hK hP 0 rfl rfl 5 (by decide) (hts (.fieldLink RX5 39 "UpAllRound" "sheets" "LUpAllRound$Sheets;") (List.mem_of_getElem? (i := 1) rfl)) (fun _ h9 => h9) hU5 dX5_judge_16 ?_
    refine lv_iload_n hx hb dX5_judge_19 rfl (lv_at hl 1 rfl) ?_
    refine zcsE (va_runVN (As := [.int (nI q)]) (rest := []) ⟨hx, hb, hml, hown, hts⟩ (c_X2_isMissing l D cI cJ hSh [.ref hN0, .ref hb9, .ref hz9] hb9 BT q (by first | rfl | assumption | omega) (by first | rfl | assumption | omega) s.heap.size) ⟨va_cnB 1 hts gX5_judge_X2_isMissing_n202 rfl rfl rfl (hN (.methodLinkNest "UpAllRound" 202 yX2_isMissing "UpAllRound") (List.mem_of_getElem? (i := 58) rfl)) (hts (.initialized RX2) (List.mem_of_getElem? (i := 18) rfl)) (by decide +kernel) ⟨Nat.le_of_ble_eq_true rfl, Nat.le_of_ble_eq_true rfl⟩, (hts (.instanceMethod yX2_isMissing) (List.mem_of_getElem? (i := 17) rfl)), (hts (.selects RX2 yX2_isMissing yX2_isMissing) (List.mem_of_getElem? (i := 19) rfl))⟩ (zpV hK hN hZ hP hD hS hA [4, 10] rfl (by decide) 4 rfl rfl rfl) rfl rfl hl.1 rfl (lv_room (Nat.le_of_ble_eq_true rfl)) dX5_judge_20 ⟨Nat.zero_le _, Nat.zero_le _⟩) ?_
    refine lv_if_eq (tgt := 32) hx hb dX5_judge_23 (by decide) (fun c23_2 => ?_) (fun c23_2 => ?_)
    · have c23_2 := bI_0.mp c23_2
      refine lv_aload_n hx hb dX5_judge_32 rfl (lv_at hl 0 rfl) ?_
      refine va_get (ci := 5) (v := .ref hSh) (C := RX5) (T := TX5) (N := 9) hx hb hts hin5 hown hK hP 0 rfl rfl 5 (by decide) (hts (.fieldLink RX5 39 "UpAllRound" "sheets" "LUpAllRound$Sheets;") (List.mem_of_getElem? (i := 1) rfl)) (fun _ h9 => h9) hU5 dX5_judge_33 ?_
      refine va_getN (ci := 2) (v := .ref hz9) (C := RX2) (T := TX2) (N := 3) hx hb hts hin2 hown hK hP 4 rfl rfl 2 (by decide) (va_Nw.use rfl (hN (.fieldLinkNest "UpAllRound" 207 "UpAllRound$Sheets" "sizes" "[I" "UpAllRound") (List.mem_of_getElem? (i := 21) rfl))) (fun _ h9 => h9) rfl dX5_judge_36 ?_
      refine lv_iload_n hx hb dX5_judge_39 rfl (lv_at hl 1 rfl) ?_
      refine zald (t := q) hx hb hK hP 11 rfl (by omega) (by decide) dX5_judge_40 ?_
      refine zrw hm ?_
      refine lv_aload_n hx hb dX5_judge_41 rfl (lv_at hl 0 rfl) ?_
      refine va_get (ci := 5) (v := .ref hS9) (C := RX5) (T := TX5) (N := 9) hx hb hts hin5 hown hK hP 0 rfl rfl 0 (by decide) (hts (.fieldLink RX5 12 "UpAllRound" "now" "LUpAllRound$Stair;") (List.mem_of_getElem? (i := 2) rfl)) (fun _ h9 => h9) hU0 dX5_judge_42 ?_
      refine va_getN (ci := 3) (v := .int (nI k)) (C := RX3) (T := TX3) (N := 16) hx hb hts hin3 hown hK hP 1 rfl rfl 4 (by decide) (va_Nw.use rfl (hN (.fieldLinkNest "UpAllRound" 64 "UpAllRound$Stair" "climbers" "I" "UpAllRound") (List.mem_of_getElem? (i := 4) rfl))) (fun _ h9 => h9) hft4 dX5_judge_45 ?_
      refine va_mmin hx hb (by rw [hml]; exact hl.1.symm) hown (hts (.methodLink RX5 246 Lib.Math.min.name) (List.mem_of_getElem? (i := 3) rfl)) (hts (.static Lib.Math.min.name) (List.mem_of_getElem? (i := 4) rfl)) (hts (.initialized "java/lang/Math") (List.mem_of_getElem? (i := 5) rfl)) (hts (.code Lib.Math.min.name Lib.Math.min.code 2 (some .int)) (List.mem_of_getElem? (i := 6) rfl)) (Nat.le_of_ble_eq_true rfl) (Nat.le_of_ble_eq_true rfl) (Nat.zero_le _) (Nat.zero_le _) dX5_judge_48 ?_
      refine zrw (zmin_i (show m < 2147483648 by omega) (show k < 2147483648 by omega)) ?_
      refine lv_istore_n (lv' := [(2, .int (nI (min m k))), (0, .ref h), (1, .int (nI q))]) hx hb dX5_judge_51 rfl hl (by decide) rfl (fun ls hl => ?_)
      rcases (show q = 0 ∨ q = 1 ∨ q = 2 ∨ q = 3 from by omega) with h9 | h9 | h9 | h9
      · subst h9
        refine lv_iconst (v := nI 0) hx hb dX5_judge_52 (by decide) ?_
        refine lv_istore_n (lv' := [(3, .int (nI 0)), (2, .int (nI (min m k))), (0, .ref h), (1, .int (nI 0))]) hx hb dX5_judge_53 rfl hl (by decide) rfl (fun ls hl => ?_)
        have L_54 : ∀ (fu i : Nat)  (hi : i ≤ (min m k)) (hn : (min m k) + 1 ≤ i + fu) (hz : zfind (zPju S NU (24 * 0)) (min m k - i) i = zfind (zPju S NU (24 * 0)) (min m k) 0), ∀ (ls : Array Slot), lv_has ls 4 [(0, .ref h), (1, .int (nI 0)), (2, .int (nI (min m k))), (3, .int (nI i))] → ∀ (H : Heap) (locs : List Loc), va_P D vwCl [(h, .inr (5, fs)), (hS9, .inr (3, ft)), (hp, .inl (cI, 6, .inl ((fun c => S (8 + 4 * c + 2))))), (hE, .inl (cI, 7, .inl E)), (hSh, .inr (2, [.ref hN0, .ref hb9, .ref hz9])), (hN0, .inl (cJ, 4, .inr (.inr (.inr (.inr (zq4 w0 w1 w2 w3)))))), (w0, .inl (cI, 24, .inl ((fun x => NU (24 * 0 + x))))), (w1, .inl (cI, 24, .inl ((fun x => NU (24 * 1 + x))))), (w2, .inl (cI, 24, .inl ((fun x => NU (24 * 2 + x))))), (w3, .inl (cI, 24, .inl ((fun x => NU (24 * 3 + x))))), (hb9, .inl (cI, 4, .inl BT)), (hz9, .inl (cI, 4, .inl SZ))] H → va_D AA [(h, .inr (5, fs)), (hS9, .inr (3, ft)), (hp, .inl (cI, 6, .inl ((fun c => S (8 + 4 * c + 2))))), (hE, .inl (cI, 7, .inl E)), (hSh, .inr (2, [.ref hN0, .ref hb9, .ref hz9])), (hN0, .inl (cJ, 4, .inr (.inr (.inr (.inr (zq4 w0 w1 w2 w3)))))), (w0, .inl (cI, 24, .inl ((fun x => NU (24 * 0 + x))))), (w1, .inl (cI, 24, .inl ((fun x => NU (24 * 1 + x))))), (w2, .inl (cI, 24, .inl ((fun x => NU (24 * 2 + x))))), (w3, .inl (cI, 24, .inl ((fun x => NU (24 * 3 + x))))), (hb9, .inl (cI, 4, .inl BT)), (hz9, .inl (cI, 4, .inl SZ))] → va_S AA s.heap H locs → W pg l ev ({ frames := 1, cells := 0, slots := 0, locals := 22 } : Room) s mt args below meth cd H locs 0 0 QQ (F0 mt 54 ls []) := by
          intro fu
          induction fu with
          | zero =>
            intro i  hi hn
            exact absurd hn (by omega)
          | succ fu ih_54 =>
            intro i  hi hn hz ls hl H locs hP hD hS
            refine lv_iload_n hx hb dX5_judge_54 rfl (lv_at hl 3 rfl) ?_
            refine lv_iload_n hx hb dX5_judge_55 rfl (lv_at hl 2 rfl) ?_
            refine lv_icmp_ge (tgt := 90) hx hb dX5_judge_56 (by decide) (fun c56_3 => ?_) (fun c56_3 => ?_)
            · have c56_3 : (min m k) ≤ i := (nI_leI (a := min m k) (b := i) (by omega) (by omega)).mp c56_3
              refine lv_iload_n hx hb dX5_judge_90 rfl (lv_at hl 2 rfl) ?_
              exact hret hP hD hS dX5_judge_91 rfl (by (have hy : zlk BT (nI 0) = 0 := (by rw [zlk, if_pos (by decide), nI_clamp (show 0 < 2147483648 by omega), if_neg (by assumption)])); (have hf : zfind (zPju S NU (24 * 0)) (min m k) 0 = (min m k) := (by rw [← hz, show min m k - i = 0 by omega]; exact (show i = min m k by omega))); rw [show zo_judge S E n k BT SZ NU (nI 0) = (nI (min m k), S, E) from by rw [zo_judge, if_pos hy, nI_clamp (show 0 < 2147483648 by omega), hm, nI_clamp (show m < 2147483648 by omega), hf]]; exact ⟨rfl, rfl⟩)
            · have c56_3 : ¬ ((min m k) ≤ i) := fun h9 => c56_3 ((nI_leI (a := min m k) (b := i) (by omega) (by omega)).mpr h9)
              refine lv_aload_n hx hb dX5_judge_59 rfl (lv_at hl 0 rfl) ?_
              refine va_get (ci := 5) (v := .ref hSh) (C := RX5) (T := TX5) (N := 9) hx hb hts hin5 hown hK hP 0 rfl rfl 5 (by decide) (hts (.fieldLink RX5 39 "UpAllRound" "sheets" "LUpAllRound$Sheets;") (List.mem_of_getElem? (i := 1) rfl)) (fun _ h9 => h9) hU5 dX5_judge_60 ?_
              refine va_getN (ci := 2) (v := .ref hN0) (C := RX2) (T := TX2) (N := 3) hx hb hts hin2 hown hK hP 4 rfl rfl 0 (by decide) (va_Nw.use rfl (hN (.fieldLinkNest "UpAllRound" 205 "UpAllRound$Sheets" "numbers" "[[I" "UpAllRound") (List.mem_of_getElem? (i := 19) rfl))) (fun _ h9 => h9) rfl dX5_judge_63 ?_
              refine lv_iload_n hx hb dX5_judge_66 rfl (lv_at hl 1 rfl) ?_
              refine zaldq (t := 0) (x := w0) hx hb hK hP 5 rfl (by decide) (by decide) rfl dX5_judge_67 ?_
              refine lv_iload_n hx hb dX5_judge_68 rfl (lv_at hl 3 rfl) ?_
              refine zald (t := i) hx hb hK hP 6 rfl (by omega) (by decide) dX5_judge_69 ?_
              refine lv_aload_n hx hb dX5_judge_70 rfl (lv_at hl 0 rfl) ?_
              refine va_get (ci := 5) (v := .ref hS9) (C := RX5) (T := TX5) (N := 9) hx hb hts hin5 hown hK hP 0 rfl rfl 0 (by decide) (hts (.fieldLink RX5 12 "UpAllRound" "now" "LUpAllRound$Stair;") (List.mem_of_getElem? (i := 2) rfl)) (fun _ h9 => h9) hU0 dX5_judge_71 ?_
              refine va_getN (ci := 3) (v := .ref hp) (C := RX3) (T := TX3) (N := 16) hx hb hts hin3 hown hK hP 1 rfl rfl 7 (by decide) (va_Nw.use rfl (hN (.fieldLinkNest "UpAllRound" 100 "UpAllRound$Stair" "places" "[I" "UpAllRound") (List.mem_of_getElem? (i := 7) rfl))) (fun _ h9 => h9) hft7 dX5_judge_74 ?_
              refine lv_iload_n hx hb dX5_judge_77 rfl (lv_at hl 3 rfl) ?_
              refine zald (t := i) hx hb hK hP 2 rfl (by omega) (by decide) dX5_judge_78 ?_
              refine lv_icmp_eq (tgt := 84) hx hb dX5_judge_79 (by decide) (fun c79_4 => ?_) (fun c79_4 => ?_)
              · refine lv_iinc (v := nI (i + 1)) (lv' := [(3, .int (nI (i + 1))), (0, .ref h), (1, .int (nI 0)), (2, .int (nI (min m k)))]) hx hb dX5_judge_84 hl (k := 3) rfl (nI_add _ _) (by decide) rfl (fun ls hl => ?_)
                refine lv_goto (tgt := 54) hx hb dX5_judge_87 (by decide) ?_
                exact ih_54  (i + 1)  (by omega) (by omega) (by rw [← hz, show min m k - i = (min m k - (i + 1)) + 1 by omega]; exact (zfind_n (P := (zPju S NU (24 * 0))) (fun h9 => h9 (Eq.symm (by assumption)))).symm) ls (lv_sub hl [1, 2, 3, 0] rfl) H locs hP hD hS
              · refine lv_iload_n hx hb dX5_judge_82 rfl (lv_at hl 3 rfl) ?_
                exact hret hP hD hS dX5_judge_83 rfl (by (have hy : zlk BT (nI 0) = 0 := (by rw [zlk, if_pos (by decide), nI_clamp (show 0 < 2147483648 by omega), if_neg (by assumption)])); (have hf : zfind (zPju S NU (24 * 0)) (min m k) 0 = i := (by rw [← hz, show min m k - i = (min m k - (i + 1)) + 1 by omega]; exact zfind_p (P := (zPju S NU (24 * 0))) (by first | assumption | exact fun h9 => absurd h9.symm (by assumption)))); rw [show zo_judge S E n k BT SZ NU (nI 0) = (nI i, S, E) from by rw [zo_judge, if_pos hy, nI_clamp (show 0 < 2147483648 by omega), hm, nI_clamp (show m < 2147483648 by omega), hf]]; exact ⟨rfl, rfl⟩)
        exact L_54 ((min m k) + 1) 0  (by omega) (by omega) rfl ls (lv_sub hl [2, 3, 1, 0] rfl) _ _ hP hD hS
      · subst h9
        refine lv_iconst (v := nI 0) hx hb dX5_judge_52 (by decide) ?_
        refine lv_istore_n (lv' := [(3, .int (nI 0)), (2, .int (nI (min m k))), (0, .ref h), (1, .int (nI 1))]) hx hb dX5_judge_53 rfl hl (by decide) rfl (fun ls hl => ?_)
        have L_54 : ∀ (fu i : Nat)  (hi : i ≤ (min m k)) (hn : (min m k) + 1 ≤ i + fu) (hz : zfind (zPju S NU (24 * 1)) (min m k - i) i = zfind (zPju S NU (24 * 1)) (min m k) 0), ∀ (ls : Array Slot), lv_has ls 4 [(0, .ref h), (1, .int (nI 1)), (2, .int (nI (min m k))), (3, .int (nI i))] → ∀ (H : Heap) (locs : List Loc), va_P D vwCl [(h, .inr (5, fs)), (hS9, .inr (3, ft)), (hp, .inl (cI, 6, .inl ((fun c => S (8 + 4 * c + 2))))), (hE, .inl (cI, 7, .inl E)), (hSh, .inr (2, [.ref hN0, .ref hb9, .ref hz9])), (hN0, .inl (cJ, 4, .inr (.inr (.inr (.inr (zq4 w0 w1 w2 w3)))))), (w0, .inl (cI, 24, .inl ((fun x => NU (24 * 0 + x))))), (w1, .inl (cI, 24, .inl ((fun x => NU (24 * 1 + x))))), (w2, .inl (cI, 24, .inl ((fun x => NU (24 * 2 + x))))), (w3, .inl (cI, 24, .inl ((fun x => NU (24 * 3 + x))))), (hb9, .inl (cI, 4, .inl BT)), (hz9, .inl (cI, 4, .inl SZ))] H → va_D AA [(h, .inr (5, fs)), (hS9, .inr (3, ft)), (hp, .inl (cI, 6, .inl ((fun c => S (8 + 4 * c + 2))))), (hE, .inl (cI, 7, .inl E)), (hSh, .inr (2, [.ref hN0, .ref hb9, .ref hz9])), (hN0, .inl (cJ, 4, .inr (.inr (.inr (.inr (zq4 w0 w1 w2 w3)))))), (w0, .inl (cI, 24, .inl ((fun x => NU (24 * 0 + x))))), (w1, .inl (cI, 24, .inl ((fun x => NU (24 * 1 + x))))), (w2, .inl (cI, 24, .inl ((fun x => NU (24 * 2 + x))))), (w3, .inl (cI, 24, .inl ((fun x => NU (24 * 3 + x))))), (hb9, .inl (cI, 4, .inl BT)), (hz9, .inl (cI, 4, .inl SZ))] → va_S AA s.heap H locs → W pg l ev ({ frames := 1, cells := 0, slots := 0, locals := 22 } : Room) s mt args below meth cd H locs 0 0 QQ (F0 mt 54 ls []) := by
          intro fu
          induction fu with
          | zero =>
            intro i  hi hn
            exact absurd hn (by omega)
          | succ fu ih_54 =>
            intro i  hi hn hz ls hl H locs hP hD hS
            refine lv_iload_n hx hb dX5_judge_54 rfl (lv_at hl 3 rfl) ?_
            refine lv_iload_n hx hb dX5_judge_55 rfl (lv_at hl 2 rfl) ?_
            refine lv_icmp_ge (tgt := 90) hx hb dX5_judge_56 (by decide) (fun c56_5 => ?_) (fun c56_5 => ?_)
            · have c56_5 : (min m k) ≤ i := (nI_leI (a := min m k) (b := i) (by omega) (by omega)).mp c56_5
              refine lv_iload_n hx hb dX5_judge_90 rfl (lv_at hl 2 rfl) ?_
              exact hret hP hD hS dX5_judge_91 rfl (by (have hy : zlk BT (nI 1) = 0 := (by rw [zlk, if_pos (by decide), nI_clamp (show 1 < 2147483648 by omega), if_neg (by assumption)])); (have hf : zfind (zPju S NU (24 * 1)) (min m k) 0 = (min m k) := (by rw [← hz, show min m k - i = 0 by omega]; exact (show i = min m k by omega))); rw [show zo_judge S E n k BT SZ NU (nI 1) = (nI (min m k), S, E) from by rw [zo_judge, if_pos hy, nI_clamp (show 1 < 2147483648 by omega), hm, nI_clamp (show m < 2147483648 by omega), hf]]; exact ⟨rfl, rfl⟩)
            · have c56_5 : ¬ ((min m k) ≤ i) := fun h9 => c56_5 ((nI_leI (a := min m k) (b := i) (by omega) (by omega)).mpr h9)
              refine lv_aload_n hx hb dX5_judge_59 rfl (lv_at hl 0 rfl) ?_
              refine va_get (ci := 5) (v := .ref hSh) (C := RX5) (T := TX5) (N := 9) hx hb hts hin5 hown hK hP 0 rfl rfl 5 (by decide) (hts (.fieldLink RX5 39 "UpAllRound" "sheets" "LUpAllRound$Sheets;") (List.mem_of_getElem? (i := 1) rfl)) (fun _ h9 => h9) hU5 dX5_judge_60 ?_
              refine va_getN (ci := 2) (v := .ref hN0) (C := RX2) (T := TX2) (N := 3) hx hb hts hin2 hown hK hP 4 rfl rfl 0 (by decide) (va_Nw.use rfl (hN (.fieldLinkNest "UpAllRound" 205 "UpAllRound$Sheets" "numbers" "[[I" "UpAllRound") (List.mem_of_getElem? (i := 19) rfl))) (fun _ h9 => h9) rfl dX5_judge_63 ?_
              refine lv_iload_n hx hb dX5_judge_66 rfl (lv_at hl 1 rfl) ?_
              refine zaldq (t := 1) (x := w1) hx hb hK hP 5 rfl (by decide) (by decide) rfl dX5_judge_67 ?_
              refine lv_iload_n hx hb dX5_judge_68 rfl (lv_at hl 3 rfl) ?_
              refine zald (t := i) hx hb hK hP 7 rfl (by omega) (by decide) dX5_judge_69 ?_
              refine lv_aload_n hx hb dX5_judge_70 rfl (lv_at hl 0 rfl) ?_
              refine va_get (ci := 5) (v := .ref hS9) (C := RX5) (T := TX5) (N := 9) hx hb hts hin5 hown hK hP 0 rfl rfl 0 (by decide) (hts (.fieldLink RX5 12 "UpAllRound" "now" "LUpAllRound$Stair;") (List.mem_of_getElem? (i := 2) rfl)) (fun _ h9 => h9) hU0 dX5_judge_71 ?_
              refine va_getN (ci := 3) (v := .ref hp) (C := RX3) (T := TX3) (N := 16) hx hb hts hin3 hown hK hP 1 rfl rfl 7 (by decide) (va_Nw.use rfl (hN (.fieldLinkNest "UpAllRound" 100 "UpAllRound$Stair" "places" "[I" "UpAllRound") (List.mem_of_getElem? (i := 7) rfl))) (fun _ h9 => h9) hft7 dX5_judge_74 ?_
              refine lv_iload_n hx hb dX5_judge_77 rfl (lv_at hl 3 rfl) ?_
              refine zald (t := i) hx hb hK hP 2 rfl (by omega) (by decide) dX5_judge_78 ?_
              refine lv_icmp_eq (tgt := 84) hx hb dX5_judge_79 (by decide) (fun c79_6 => ?_) (fun c79_6 => ?_)
              · refine lv_iinc (v := nI (i + 1)) (lv' := [(3, .int (nI (i + 1))), (0, .ref h), (1, .int (nI 1)), (2, .int (nI (min m k)))]) hx hb dX5_judge_84 hl (k := 3) rfl (nI_add _ _) (by decide) rfl (fun ls hl => ?_)
                refine lv_goto (tgt := 54) hx hb dX5_judge_87 (by decide) ?_
                exact ih_54  (i + 1)  (by omega) (by omega) (by rw [← hz, show min m k - i = (min m k - (i + 1)) + 1 by omega]; exact (zfind_n (P := (zPju S NU (24 * 1))) (fun h9 => h9 (Eq.symm (by assumption)))).symm) ls (lv_sub hl [1, 2, 3, 0] rfl) H locs hP hD hS
              · refine lv_iload_n hx hb dX5_judge_82 rfl (lv_at hl 3 rfl) ?_
                exact hret hP hD hS dX5_judge_83 rfl (by (have hy : zlk BT (nI 1) = 0 := (by rw [zlk, if_pos (by decide), nI_clamp (show 1 < 2147483648 by omega), if_neg (by assumption)])); (have hf : zfind (zPju S NU (24 * 1)) (min m k) 0 = i := (by rw [← hz, show min m k - i = (min m k - (i + 1)) + 1 by omega]; exact zfind_p (P := (zPju S NU (24 * 1))) (by first | assumption | exact fun h9 => absurd h9.symm (by assumption)))); rw [show zo_judge S E n k BT SZ NU (nI 1) = (nI i, S, E) from by rw [zo_judge, if_pos hy, nI_clamp (show 1 < 2147483648 by omega), hm, nI_clamp (show m < 2147483648 by omega), hf]]; exact ⟨rfl, rfl⟩)
        exact L_54 ((min m k) + 1) 0  (by omega) (by omega) rfl ls (lv_sub hl [2, 3, 1, 0] rfl) _ _ hP hD hS
      · subst h9
        refine lv_iconst (v := nI 0) hx hb dX5_judge_52 (by decide) ?_
        refine lv_istore_n (lv' := [(3, .int (nI 0)), (2, .int (nI (min m k))), (0, .ref h), (1, .int (nI 2))]) hx hb dX5_judge_53 rfl hl (by decide) rfl (fun ls hl => ?_)
        have L_54 : ∀ (fu i : Nat)  (hi : i ≤ (min m k)) (hn : (min m k) + 1 ≤ i + fu) (hz : zfind (zPju S NU (24 * 2)) (min m k - i) i = zfind (zPju S NU (24 * 2)) (min m k) 0), ∀ (ls : Array Slot), lv_has ls 4 [(0, .ref h), (1, .int (nI 2)), (2, .int (nI (min m k))), (3, .int (nI i))] → ∀ (H : Heap) (locs : List Loc), va_P D vwCl [(h, .inr (5, fs)), (hS9, .inr (3, ft)), (hp, .inl (cI, 6, .inl ((fun c => S (8 + 4 * c + 2))))), (hE, .inl (cI, 7, .inl E)), (hSh, .inr (2, [.ref hN0, .ref hb9, .ref hz9])), (hN0, .inl (cJ, 4, .inr (.inr (.inr (.inr (zq4 w0 w1 w2 w3)))))), (w0, .inl (cI, 24, .inl ((fun x => NU (24 * 0 + x))))), (w1, .inl (cI, 24, .inl ((fun x => NU (24 * 1 + x))))), (w2, .inl (cI, 24, .inl ((fun x => NU (24 * 2 + x))))), (w3, .inl (cI, 24, .inl ((fun x => NU (24 * 3 + x))))), (hb9, .inl (cI, 4, .inl BT)), (hz9, .inl (cI, 4, .inl SZ))] H → va_D AA [(h, .inr (5, fs)), (hS9, .inr (3, ft)), (hp, .inl (cI, 6, .inl ((fun c => S (8 + 4 * c + 2))))), (hE, .inl (cI, 7, .inl E)), (hSh, .inr (2, [.ref hN0, .ref hb9, .ref hz9])), (hN0, .inl (cJ, 4, .inr (.inr (.inr (.inr (zq4 w0 w1 w2 w3)))))), (w0, .inl (cI, 24, .inl ((fun x => NU (24 * 0 + x))))), (w1, .inl (cI, 24, .inl ((fun x => NU (24 * 1 + x))))), (w2, .inl (cI, 24, .inl ((fun x => NU (24 * 2 + x))))), (w3, .inl (cI, 24, .inl ((fun x => NU (24 * 3 + x))))), (hb9, .inl (cI, 4, .inl BT)), (hz9, .inl (cI, 4, .inl SZ))] → va_S AA s.heap H locs → W pg l ev ({ frames := 1, cells := 0, slots := 0, locals := 22 } : Room) s mt args below meth cd H locs 0 0 QQ (F0 mt 54 ls []) := by
          intro fu
          induction fu with
          | zero =>
            intro i  hi hn
            exact absurd hn (by omega)
          | succ fu ih_54 =>
            intro i  hi hn hz ls hl H locs hP hD hS
            refine lv_iload_n hx hb dX5_judge_54 rfl (lv_at hl 3 rfl) ?_
            refine lv_iload_n hx hb dX5_judge_55 rfl (lv_at hl 2 rfl) ?_
            refine lv_icmp_ge (tgt := 90) hx hb dX5_judge_56 (by decide) (fun c56_7 => ?_) (fun c56_7 => ?_)
            · have c56_7 : (min m k) ≤ i := (nI_leI (a := min m k) (b := i) (by omega) (by omega)).mp c56_7
              refine lv_iload_n hx hb dX5_judge_90 rfl (lv_at hl 2 rfl) ?_
              exact hret hP hD hS dX5_judge_91 rfl (by (have hy : zlk BT (nI 2) = 0 := (by rw [zlk, if_pos (by decide), nI_clamp (show 2 < 2147483648 by omega), if_neg (by assumption)])); (have hf : zfind (zPju S NU (24 * 2)) (min m k) 0 = (min m k) := (by rw [← hz, show min m k - i = 0 by omega]; exact (show i = min m k by omega))); rw [show zo_judge S E n k BT SZ NU (nI 2) = (nI (min m k), S, E) from by rw [zo_judge, if_pos hy, nI_clamp (show 2 < 2147483648 by omega), hm, nI_clamp (show m < 2147483648 by omega), hf]]; exact ⟨rfl, rfl⟩)
            · have c56_7 : ¬ ((min m k) ≤ i) := fun h9 => c56_7 ((nI_leI (a := min m k) (b := i) (by omega) (by omega)).mpr h9)
              refine lv_aload_n hx hb dX5_judge_59 rfl (lv_at hl 0 rfl) ?_
              refine va_get (ci := 5) (v := .ref hSh) (C := RX5) (T := TX5) (N := 9) hx hb hts hin5 hown hK hP 0 rfl rfl 5 (by decide) (hts (.fieldLink RX5 39 "UpAllRound" "sheets" "LUpAllRound$Sheets;") (List.mem_of_getElem? (i := 1) rfl)) (fun _ h9 => h9) hU5 dX5_judge_60 ?_
              refine va_getN (ci := 2) (v := .ref hN0) (C := RX2) (T := TX2) (N := 3) hx hb hts hin2 hown hK hP 4 rfl rfl 0 (by decide) (va_Nw.use rfl (hN (.fieldLinkNest "UpAllRound" 205 "UpAllRound$Sheets" "numbers" "[[I" "UpAllRound") (List.mem_of_getElem? (i := 19) rfl))) (fun _ h9 => h9) rfl dX5_judge_63 ?_
              refine lv_iload_n hx hb dX5_judge_66 rfl (lv_at hl 1 rfl) ?_
              refine zaldq (t := 2) (x := w2) hx hb hK hP 5 rfl (by decide) (by decide) rfl dX5_judge_67 ?_
              refine lv_iload_n hx hb dX5_judge_68 rfl (lv_at hl 3 rfl) ?_
              refine zald (t := i) hx hb hK hP 8 rfl (by omega) (by decide) dX5_judge_69 ?_
              refine lv_aload_n hx hb dX5_judge_70 rfl (lv_at hl 0 rfl) ?_
              refine va_get (ci := 5) (v := .ref hS9) (C := RX5) (T := TX5) (N := 9) hx hb hts hin5 hown hK hP 0 rfl rfl 0 (by decide) (hts (.fieldLink RX5 12 "UpAllRound" "now" "LUpAllRound$Stair;") (List.mem_of_getElem? (i := 2) rfl)) (fun _ h9 => h9) hU0 dX5_judge_71 ?_
              refine va_getN (ci := 3) (v := .ref hp) (C := RX3) (T := TX3) (N := 16) hx hb hts hin3 hown hK hP 1 rfl rfl 7 (by decide) (va_Nw.use rfl (hN (.fieldLinkNest "UpAllRound" 100 "UpAllRound$Stair" "places" "[I" "UpAllRound") (List.mem_of_getElem? (i := 7) rfl))) (fun _ h9 => h9) hft7 dX5_judge_74 ?_
              refine lv_iload_n hx hb dX5_judge_77 rfl (lv_at hl 3 rfl) ?_
              refine zald (t := i) hx hb hK hP 2 rfl (by omega) (by decide) dX5_judge_78 ?_
              refine lv_icmp_eq (tgt := 84) hx hb dX5_judge_79 (by decide) (fun c79_8 => ?_) (fun c79_8 => ?_)
              · refine lv_iinc (v := nI (i + 1)) (lv' := [(3, .int (nI (i + 1))), (0, .ref h), (1, .int (nI 2)), (2, .int (nI (min m k)))]) hx hb dX5_judge_84 hl (k := 3) rfl (nI_add _ _) (by decide) rfl (fun ls hl => ?_)
                refine lv_goto (tgt := 54) hx hb dX5_judge_87 (by decide) ?_
                exact ih_54  (i + 1)  (by omega) (by omega) (by rw [← hz, show min m k - i = (min m k - (i + 1)) + 1 by omega]; exact (zfind_n (P := (zPju S NU (24 * 2))) (fun h9 => h9 (Eq.symm (by assumption)))).symm) ls (lv_sub hl [1, 2, 3, 0] rfl) H locs hP hD hS
              · refine lv_iload_n hx hb dX5_judge_82 rfl (lv_at hl 3 rfl) ?_
                exact hret hP hD hS dX5_judge_83 rfl (by (have hy : zlk BT (nI 2) = 0 := (by rw [zlk, if_pos (by decide), nI_clamp (show 2 < 2147483648 by omega), if_neg (by assumption)])); (have hf : zfind (zPju S NU (24 * 2)) (min m k) 0 = i := (by rw [← hz, show min m k - i = (min m k - (i + 1)) + 1 by omega]; exact zfind_p (P := (zPju S NU (24 * 2))) (by first | assumption | exact fun h9 => absurd h9.symm (by assumption)))); rw [show zo_judge S E n k BT SZ NU (nI 2) = (nI i, S, E) from by rw [zo_judge, if_pos hy, nI_clamp (show 2 < 2147483648 by omega), hm, nI_clamp (show m < 2147483648 by omega), hf]]; exact ⟨rfl, rfl⟩)
        exact L_54 ((min m k) + 1) 0  (by omega) (by omega) rfl ls (lv_sub hl [2, 3, 1, 0] rfl) _ _ hP hD hS
      · subst h9
        refine lv_iconst (v := nI 0) hx hb dX5_judge_52 (by decide) ?_
        refine lv_istore_n (lv' := [(3, .int (nI 0)), (2, .int (nI (min m k))), (0, .ref h), (1, .int (nI 3))]) hx hb dX5_judge_53 rfl hl (by decide) rfl (fun ls hl => ?_)
        have L_54 : ∀ (fu i : Nat)  (hi : i ≤ (min m k)) (hn : (min m k) + 1 ≤ i + fu) (hz : zfind (zPju S NU (24 * 3)) (min m k - i) i = zfind (zPju S NU (24 * 3)) (min m k) 0), ∀ (ls : Array Slot), lv_has ls 4 [(0, .ref h), (1, .int (nI 3)), (2, .int (nI (min m k))), (3, .int (nI i))] → ∀ (H : Heap) (locs : List Loc), va_P D vwCl [(h, .inr (5, fs)), (hS9, .inr (3, ft)), (hp, .inl (cI, 6, .inl ((fun c => S (8 + 4 * c + 2))))), (hE, .inl (cI, 7, .inl E)), (hSh, .inr (2, [.ref hN0, .ref hb9, .ref hz9])), (hN0, .inl (cJ, 4, .inr (.inr (.inr (.inr (zq4 w0 w1 w2 w3)))))), (w0, .inl (cI, 24, .inl ((fun x => NU (24 * 0 + x))))), (w1, .inl (cI, 24, .inl ((fun x => NU (24 * 1 + x))))), (w2, .inl (cI, 24, .inl ((fun x => NU (24 * 2 + x))))), (w3, .inl (cI, 24, .inl ((fun x => NU (24 * 3 + x))))), (hb9, .inl (cI, 4, .inl BT)), (hz9, .inl (cI, 4, .inl SZ))] H → va_D AA [(h, .inr (5, fs)), (hS9, .inr (3, ft)), (hp, .inl (cI, 6, .inl ((fun c => S (8 + 4 * c + 2))))), (hE, .inl (cI, 7, .inl E)), (hSh, .inr (2, [.ref hN0, .ref hb9, .ref hz9])), (hN0, .inl (cJ, 4, .inr (.inr (.inr (.inr (zq4 w0 w1 w2 w3)))))), (w0, .inl (cI, 24, .inl ((fun x => NU (24 * 0 + x))))), (w1, .inl (cI, 24, .inl ((fun x => NU (24 * 1 + x))))), (w2, .inl (cI, 24, .inl ((fun x => NU (24 * 2 + x))))), (w3, .inl (cI, 24, .inl ((fun x => NU (24 * 3 + x))))), (hb9, .inl (cI, 4, .inl BT)), (hz9, .inl (cI, 4, .inl SZ))] → va_S AA s.heap H locs → W pg l ev ({ frames := 1, cells := 0, slots := 0, locals := 22 } : Room) s mt args below meth cd H locs 0 0 QQ (F0 mt 54 ls []) := by
          intro fu
          induction fu with
          | zero =>
            intro i  hi hn
            exact absurd hn (by omega)
          | succ fu ih_54 =>
            intro i  hi hn hz ls hl H locs hP hD hS
            refine lv_iload_n hx hb dX5_judge_54 rfl (lv_at hl 3 rfl) ?_
            refine lv_iload_n hx hb dX5_judge_55 rfl (lv_at hl 2 rfl) ?_
            refine lv_icmp_ge (tgt := 90) hx hb dX5_judge_56 (by decide) (fun c56_9 => ?_) (fun c56_9 => ?_)
            · have c56_9 : (min m k) ≤ i := (nI_leI (a := min m k) (b := i) (by omega) (by omega)).mp c56_9
              refine lv_iload_n hx hb dX5_judge_90 rfl (lv_at hl 2 rfl) ?_
              exact hret hP hD hS dX5_judge_91 rfl (by (have hy : zlk BT (nI 3) = 0 := (by rw [zlk, if_pos (by decide), nI_clamp (show 3 < 2147483648 by omega), if_neg (by assumption)])); (have hf : zfind (zPju S NU (24 * 3)) (min m k) 0 = (min m k) := (by rw [← hz, show min m k - i = 0 by omega]; exact (show i = min m k by omega))); rw [show zo_judge S E n k BT SZ NU (nI 3) = (nI (min m k), S, E) from by rw [zo_judge, if_pos hy, nI_clamp (show 3 < 2147483648 by omega), hm, nI_clamp (show m < 2147483648 by omega), hf]]; exact ⟨rfl, rfl⟩)
            · have c56_9 : ¬ ((min m k) ≤ i) := fun h9 => c56_9 ((nI_leI (a := min m k) (b := i) (by omega) (by omega)).mpr h9)
              refine lv_aload_n hx hb dX5_judge_59 rfl (lv_at hl 0 rfl) ?_
              refine va_get (ci := 5) (v := .ref hSh) (C := RX5) (T := TX5) (N := 9) hx hb hts hin5 hown hK hP 0 rfl rfl 5 (by decide) (hts (.fieldLink RX5 39 "UpAllRound" "sheets" "LUpAllRound$Sheets;") (List.mem_of_getElem? (i := 1) rfl)) (fun _ h9 => h9) hU5 dX5_judge_60 ?_
              refine va_getN (ci := 2) (v := .ref hN0) (C := RX2) (T := TX2) (N := 3) hx hb hts hin2 hown hK hP 4 rfl rfl 0 (by decide) (va_Nw.use rfl (hN (.fieldLinkNest "UpAllRound" 205 "UpAllRound$Sheets" "numbers" "[[I" "UpAllRound") (List.mem_of_getElem? (i := 19) rfl))) (fun _ h9 => h9) rfl dX5_judge_63 ?_
              refine lv_iload_n hx hb dX5_judge_66 rfl (lv_at hl 1 rfl) ?_
              refine zaldq (t := 3) (x := w3) hx hb hK hP 5 rfl (by decide) (by decide) rfl dX5_judge_67 ?_
              refine lv_iload_n hx hb dX5_judge_68 rfl (lv_at hl 3 rfl) ?_
              refine zald (t := i) hx hb hK hP 9 rfl (by omega) (by decide) dX5_judge_69 ?_
              refine lv_aload_n hx hb dX5_judge_70 rfl (lv_at hl 0 rfl) ?_
              refine va_get (ci := 5) (v := .ref hS9) (C := RX5) (T := TX5) (N := 9) hx hb hts hin5 hown hK hP 0 rfl rfl 0 (by decide) (hts (.fieldLink RX5 12 "UpAllRound" "now" "LUpAllRound$Stair;") (List.mem_of_getElem? (i := 2) rfl)) (fun _ h9 => h9) hU0 dX5_judge_71 ?_
              refine va_getN (ci := 3) (v := .ref hp) (C := RX3) (T := TX3) (N := 16) hx hb hts hin3 hown hK hP 1 rfl rfl 7 (by decide) (va_Nw.use rfl (hN (.fieldLinkNest "UpAllRound" 100 "UpAllRound$Stair" "places" "[I" "UpAllRound") (List.mem_of_getElem? (i := 7) rfl))) (fun _ h9 => h9) hft7 dX5_judge_74 ?_
              refine lv_iload_n hx hb dX5_judge_77 rfl (lv_at hl 3 rfl) ?_
              refine zald (t := i) hx hb hK hP 2 rfl (by omega) (by decide) dX5_judge_78 ?_
              refine lv_icmp_eq (tgt := 84) hx hb dX5_judge_79 (by decide) (fun c79_10 => ?_) (fun c79_10 => ?_)
              · refine lv_iinc (v := nI (i + 1)) (lv' := [(3, .int (nI (i + 1))), (0, .ref h), (1, .int (nI 3)), (2, .int (nI (min m k)))]) hx hb dX5_judge_84 hl (k := 3) rfl (nI_add _ _) (by decide) rfl (fun ls hl => ?_)
                refine lv_goto (tgt := 54) hx hb dX5_judge_87 (by decide) ?_
                exact ih_54  (i + 1)  (by omega) (by omega) (by rw [← hz, show min m k - i = (min m k - (i + 1)) + 1 by omega]; exact (zfind_n (P := (zPju S NU (24 * 3))) (fun h9 => h9 (Eq.symm (by assumption)))).symm) ls (lv_sub hl [1, 2, 3, 0] rfl) H locs hP hD hS
              · refine lv_iload_n hx hb dX5_judge_82 rfl (lv_at hl 3 rfl) ?_
                exact hret hP hD hS dX5_judge_83 rfl (by (have hy : zlk BT (nI 3) = 0 := (by rw [zlk, if_pos (by decide), nI_clamp (show 3 < 2147483648 by omega), if_neg (by assumption)])); (have hf : zfind (zPju S NU (24 * 3)) (min m k) 0 = i := (by rw [← hz, show min m k - i = (min m k - (i + 1)) + 1 by omega]; exact zfind_p (P := (zPju S NU (24 * 3))) (by first | assumption | exact fun h9 => absurd h9.symm (by assumption)))); rw [show zo_judge S E n k BT SZ NU (nI 3) = (nI i, S, E) from by rw [zo_judge, if_pos hy, nI_clamp (show 3 < 2147483648 by omega), hm, nI_clamp (show m < 2147483648 by omega), hf]]; exact ⟨rfl, rfl⟩)
        exact L_54 ((min m k) + 1) 0  (by omega) (by omega) rfl ls (lv_sub hl [2, 3, 1, 0] rfl) _ _ hP hD hS
    · have c23_2 := bI_n0.mp c23_2
      refine lv_aload_n hx hb dX5_judge_26 rfl (lv_at hl 0 rfl) ?_
      refine lv_iconst (v := nI 2) hx hb dX5_judge_27 (by decide) ?_
      refine zci (wr := [(hS9, .inr (3, ft)), (hp, .inl (cI, 6, .inl ((fun c => S (8 + 4 * c + 2))))), (hSh, .inr (2, [.ref hN0, .ref hb9, .ref hz9])), (hN0, .inl (cJ, 4, .inr (.inr (.inr (.inr (zq4 w0 w1 w2 w3)))))), (w0, .inl (cI, 24, .inl ((fun x => NU (24 * 0 + x))))), (w1, .inl (cI, 24, .inl ((fun x => NU (24 * 1 + x))))), (w2, .inl (cI, 24, .inl ((fun x => NU (24 * 2 + x))))), (w3, .inl (cI, 24, .inl ((fun x => NU (24 * 3 + x))))), (hb9, .inl (cI, 4, .inl BT)), (hz9, .inl (cI, 4, .inl SZ))]) (va_runV (As := [.int (nI 2)]) (rest := []) ⟨hx, hb, hml, hown, hts⟩ (c_X5_refuse l D cI cJ h hE fs E 2 (by first | rfl | assumption | omega) (by first | rfl | assumption | omega) s.heap.size) (cwV 1 hts gX5_judge_X5_refuse rfl rfl rfl (by decide +kernel) ⟨Nat.le_of_ble_eq_true rfl, Nat.le_of_ble_eq_true rfl⟩) (zpV hK hN hZ hP hD hS hA [0, 3] rfl (by decide) 0 rfl rfl rfl) rfl rfl hl.1 rfl (lv_room (Nat.le_of_ble_eq_true rfl)) dX5_judge_28 ⟨Nat.zero_le _, Nat.zero_le _⟩) hP hD hS hA [0, 3] [1, 2, 4, 5, 6, 7, 8, 9, 10, 11] rfl rfl (by decide) (by decide) (fun r_13 w_12 H locs h_11 hP hD hS => ?_)
      obtain ⟨rfl, rfl⟩ := h_11
      have hP : va_P D vwCl [(hS9, .inr (3, ft)), (hp, .inl (cI, 6, .inl ((fun c => S (8 + 4 * c + 2))))), (hSh, .inr (2, [.ref hN0, .ref hb9, .ref hz9])), (hN0, .inl (cJ, 4, .inr (.inr (.inr (.inr (zq4 w0 w1 w2 w3)))))), (w0, .inl (cI, 24, .inl ((fun x => NU (24 * 0 + x))))), (w1, .inl (cI, 24, .inl ((fun x => NU (24 * 1 + x))))), (w2, .inl (cI, 24, .inl ((fun x => NU (24 * 2 + x))))), (w3, .inl (cI, 24, .inl ((fun x => NU (24 * 3 + x))))), (hb9, .inl (cI, 4, .inl BT)), (hz9, .inl (cI, 4, .inl SZ)), (h, .inr (5, fs)), (hE, .inl (cI, 7, .inl (upd E 2 (E 2 + nI 1))))] H := hP
      have hD : va_D AA [(hS9, .inr (3, ft)), (hp, .inl (cI, 6, .inl ((fun c => S (8 + 4 * c + 2))))), (hSh, .inr (2, [.ref hN0, .ref hb9, .ref hz9])), (hN0, .inl (cJ, 4, .inr (.inr (.inr (.inr (zq4 w0 w1 w2 w3)))))), (w0, .inl (cI, 24, .inl ((fun x => NU (24 * 0 + x))))), (w1, .inl (cI, 24, .inl ((fun x => NU (24 * 1 + x))))), (w2, .inl (cI, 24, .inl ((fun x => NU (24 * 2 + x))))), (w3, .inl (cI, 24, .inl ((fun x => NU (24 * 3 + x))))), (hb9, .inl (cI, 4, .inl BT)), (hz9, .inl (cI, 4, .inl SZ)), (h, .inr (5, fs)), (hE, .inl (cI, 7, .inl (upd E 2 (E 2 + nI 1))))] := hD
      have hP := hP.sub (ws' := [(h, .inr (5, fs)), (hS9, .inr (3, ft)), (hp, .inl (cI, 6, .inl ((fun c => S (8 + 4 * c + 2))))), (hE, .inl (cI, 7, .inl (upd E 2 (E 2 + nI 1)))), (hSh, .inr (2, [.ref hN0, .ref hb9, .ref hz9])), (hN0, .inl (cJ, 4, .inr (.inr (.inr (.inr (zq4 w0 w1 w2 w3)))))), (w0, .inl (cI, 24, .inl ((fun x => NU (24 * 0 + x))))), (w1, .inl (cI, 24, .inl ((fun x => NU (24 * 1 + x))))), (w2, .inl (cI, 24, .inl ((fun x => NU (24 * 2 + x))))), (w3, .inl (cI, 24, .inl ((fun x => NU (24 * 3 + x))))), (hb9, .inl (cI, 4, .inl BT)), (hz9, .inl (cI, 4, .inl SZ))]) [10, 0, 1, 11, 2, 3, 4, 5, 6, 7, 8, 9] rfl
      have hD := hD.sub (ws' := [(h, .inr (5, fs)), (hS9, .inr (3, ft)), (hp, .inl (cI, 6, .inl ((fun c => S (8 + 4 * c + 2))))), (hE, .inl (cI, 7, .inl (upd E 2 (E 2 + nI 1)))), (hSh, .inr (2, [.ref hN0, .ref hb9, .ref hz9])), (hN0, .inl (cJ, 4, .inr (.inr (.inr (.inr (zq4 w0 w1 w2 w3)))))), (w0, .inl (cI, 24, .inl ((fun x => NU (24 * 0 + x))))), (w1, .inl (cI, 24, .inl ((fun x => NU (24 * 1 + x))))), (w2, .inl (cI, 24, .inl ((fun x => NU (24 * 2 + x))))), (w3, .inl (cI, 24, .inl ((fun x => NU (24 * 3 + x))))), (hb9, .inl (cI, 4, .inl BT)), (hz9, .inl (cI, 4, .inl SZ))]) [10, 0, 1, 11, 2, 3, 4, 5, 6, 7, 8, 9] (by decide) rfl
      exact hret hP hD hS dX5_judge_31 rfl (by (have hy : zlk BT (nI q) = 2 := (by rw [zlk, if_pos hz1, nI_clamp (show q < 2147483648 by omega), if_pos (by assumption)])); rw [show zo_judge S E n k BT SZ NU (nI q) = zerrE 2 S E from by rw [zo_judge, hy, if_neg (by decide)]]; exact ⟨rfl, rfl⟩)
  · have c6_1 := bI_nn0.mp c6_1
    refine lv_aload_n hx hb dX5_judge_9 rfl (lv_at hl 0 rfl) ?_
    refine lv_iconst (v := nI 1) hx hb dX5_judge_10 (by decide) ?_
    refine zci (wr := [(hS9, .inr (3, ft)), (hp, .inl (cI, 6, .inl ((fun c => S (8 + 4 * c + 2))))), (hSh, .inr (2, [.ref hN0, .ref hb9, .ref hz9])), (hN0, .inl (cJ, 4, .inr (.inr (.inr (.inr (zq4 w0 w1 w2 w3)))))), (w0, .inl (cI, 24, .inl ((fun x => NU (24 * 0 + x))))), (w1, .inl (cI, 24, .inl ((fun x => NU (24 * 1 + x))))), (w2, .inl (cI, 24, .inl ((fun x => NU (24 * 2 + x))))), (w3, .inl (cI, 24, .inl ((fun x => NU (24 * 3 + x))))), (hb9, .inl (cI, 4, .inl BT)), (hz9, .inl (cI, 4, .inl SZ))]) (va_runV (As := [.int (nI 1)]) (rest := []) ⟨hx, hb, hml, hown, hts⟩ (c_X5_refuse l D cI cJ h hE fs E 1 (by first | rfl | assumption | omega) (by first | rfl | assumption | omega) s.heap.size) (cwV 1 hts gX5_judge_X5_refuse rfl rfl rfl (by decide +kernel) ⟨Nat.le_of_ble_eq_true rfl, Nat.le_of_ble_eq_true rfl⟩) (zpV hK hN hZ hP hD hS hA [0, 3] rfl (by decide) 0 rfl rfl rfl) rfl rfl hl.1 rfl (lv_room (Nat.le_of_ble_eq_true rfl)) dX5_judge_11 ⟨Nat.zero_le _, Nat.zero_le _⟩) hP hD hS hA [0, 3] [1, 2, 4, 5, 6, 7, 8, 9, 10, 11] rfl rfl (by decide) (by decide) (fun r_16 w_15 H locs h_14 hP hD hS => ?_)
    obtain ⟨rfl, rfl⟩ := h_14
    have hP : va_P D vwCl [(hS9, .inr (3, ft)), (hp, .inl (cI, 6, .inl ((fun c => S (8 + 4 * c + 2))))), (hSh, .inr (2, [.ref hN0, .ref hb9, .ref hz9])), (hN0, .inl (cJ, 4, .inr (.inr (.inr (.inr (zq4 w0 w1 w2 w3)))))), (w0, .inl (cI, 24, .inl ((fun x => NU (24 * 0 + x))))), (w1, .inl (cI, 24, .inl ((fun x => NU (24 * 1 + x))))), (w2, .inl (cI, 24, .inl ((fun x => NU (24 * 2 + x))))), (w3, .inl (cI, 24, .inl ((fun x => NU (24 * 3 + x))))), (hb9, .inl (cI, 4, .inl BT)), (hz9, .inl (cI, 4, .inl SZ)), (h, .inr (5, fs)), (hE, .inl (cI, 7, .inl (upd E 1 (E 1 + nI 1))))] H := hP
    have hD : va_D AA [(hS9, .inr (3, ft)), (hp, .inl (cI, 6, .inl ((fun c => S (8 + 4 * c + 2))))), (hSh, .inr (2, [.ref hN0, .ref hb9, .ref hz9])), (hN0, .inl (cJ, 4, .inr (.inr (.inr (.inr (zq4 w0 w1 w2 w3)))))), (w0, .inl (cI, 24, .inl ((fun x => NU (24 * 0 + x))))), (w1, .inl (cI, 24, .inl ((fun x => NU (24 * 1 + x))))), (w2, .inl (cI, 24, .inl ((fun x => NU (24 * 2 + x))))), (w3, .inl (cI, 24, .inl ((fun x => NU (24 * 3 + x))))), (hb9, .inl (cI, 4, .inl BT)), (hz9, .inl (cI, 4, .inl SZ)), (h, .inr (5, fs)), (hE, .inl (cI, 7, .inl (upd E 1 (E 1 + nI 1))))] := hD
    have hP := hP.sub (ws' := [(h, .inr (5, fs)), (hS9, .inr (3, ft)), (hp, .inl (cI, 6, .inl ((fun c => S (8 + 4 * c + 2))))), (hE, .inl (cI, 7, .inl (upd E 1 (E 1 + nI 1)))), (hSh, .inr (2, [.ref hN0, .ref hb9, .ref hz9])), (hN0, .inl (cJ, 4, .inr (.inr (.inr (.inr (zq4 w0 w1 w2 w3)))))), (w0, .inl (cI, 24, .inl ((fun x => NU (24 * 0 + x))))), (w1, .inl (cI, 24, .inl ((fun x => NU (24 * 1 + x))))), (w2, .inl (cI, 24, .inl ((fun x => NU (24 * 2 + x))))), (w3, .inl (cI, 24, .inl ((fun x => NU (24 * 3 + x))))), (hb9, .inl (cI, 4, .inl BT)), (hz9, .inl (cI, 4, .inl SZ))]) [10, 0, 1, 11, 2, 3, 4, 5, 6, 7, 8, 9] rfl
    have hD := hD.sub (ws' := [(h, .inr (5, fs)), (hS9, .inr (3, ft)), (hp, .inl (cI, 6, .inl ((fun c => S (8 + 4 * c + 2))))), (hE, .inl (cI, 7, .inl (upd E 1 (E 1 + nI 1)))), (hSh, .inr (2, [.ref hN0, .ref hb9, .ref hz9])), (hN0, .inl (cJ, 4, .inr (.inr (.inr (.inr (zq4 w0 w1 w2 w3)))))), (w0, .inl (cI, 24, .inl ((fun x => NU (24 * 0 + x))))), (w1, .inl (cI, 24, .inl ((fun x => NU (24 * 1 + x))))), (w2, .inl (cI, 24, .inl ((fun x => NU (24 * 2 + x))))), (w3, .inl (cI, 24, .inl ((fun x => NU (24 * 3 + x))))), (hb9, .inl (cI, 4, .inl BT)), (hz9, .inl (cI, 4, .inl SZ))]) [10, 0, 1, 11, 2, 3, 4, 5, 6, 7, 8, 9] (by decide) rfl
    exact hret hP hD hS dX5_judge_14 rfl (by (have hy : zlk BT sh = 1 := if_neg (by assumption)); rw [show zo_judge S E n k BT SZ NU sh = zerrE 1 S E from by rw [zo_judge, hy, if_neg (by decide)]]; exact ⟨rfl, rfl⟩)
