
def zfind (P : Nat → Prop) [DecidablePred P] : Nat → Nat → Nat
  | 0, i => i
  | f + 1, i => if P i then i else zfind P f (i + 1)
theorem zfind_p {P : Nat → Prop} [DecidablePred P] {f i : Nat} (h : P i) : zfind P (f + 1) i = i := if_pos h
theorem zfind_n {P : Nat → Prop} [DecidablePred P] {f i : Nat} (h : ¬ P i) : zfind P (f + 1) i = zfind P f (i + 1) := if_neg h
def zwhy (v : Int32) (mi most : Nat) : Nat := if zrg 1 most v then (if 9999 < mi + v.toNatClampNeg then 3 else 0) else 1
theorem zwhy_le (v : Int32) (mi most : Nat) : zwhy v mi most ≤ 3 := by
  unfold zwhy; (repeat' split) <;> omega
theorem zwhy_0 {v : Int32} {mi most : Nat} (h : zwhy v mi most = 0) : zrg 1 most v ∧ mi + v.toNatClampNeg ≤ 9999 := by
  unfold zwhy at h
  by_cases h1 : zrg 1 most v
  · rw [if_pos h1] at h
    by_cases h2 : 9999 < mi + v.toNatClampNeg
    · rw [if_pos h2] at h; exact absurd h (by decide)
    · exact ⟨h1, by omega⟩
  · rw [if_neg h1] at h; exact absurd h (by decide)
theorem zback {S L : Nat → Int32} {d : zDt} {k q : Nat} (hk : k ≤ 6) : zcp (zcp S L 46) (zsm S d k 0 q) 46 = S := by
  funext i
  unfold zcp
  by_cases h : i < 46
  · rw [if_pos h, if_pos h]
  · rw [if_neg h]; exact zsm_o (by omega) (by omega)
theorem zsm_P {S : Nat → Int32} {d : zDt} {k q c : Nat} (h : c < k) : zsm S d k 0 q (8 + 4 * c + 2) = zPm d k 0 q c := by rw [zsm_2 h, zPm_at h]
theorem zsm_G {S : Nat → Int32} {d : zDt} {k q c : Nat} (h : c < k) : zsm S d k 0 q (8 + 4 * c + 3) = zGm d k 0 q c := by rw [zsm_3 h, zGm_at h]
def zpairs (f : Nat → Int32) (k : Nat) : Int32 := zsum (fun j => zsum (fun o => bI (f j = f o)) j) k
theorem zpairs_c {f g : Nat → Int32} {k : Nat} (h : ∀ j, j < k → f j = g j) : zpairs f k = zpairs g k := zsum_congr (fun j hj => zsum_congr (fun o ho => by simp only [h j hj, h o (by omega)]))
def zo_minutes (S E : Nat → Int32) (k mi : Nat) (d : zDt) (v : Int32) : zOut := if zwhy v mi 200 = 0 then (zpairs (zPm d k 0 v.toNatClampNeg) k, zsm S d k 0 v.toNatClampNeg, E) else zerrE (zwhy v mi 200) S E
def zo_then (S E : Nat → Int32) (k : Nat) (d : zDt) (v climber what : Int32) : zOut := if zrg 0 200 v ∧ zin climber k ∧ zrg 0 1 what then ((if what = nI 0 then zPm d k 0 v.toNatClampNeg climber.toNatClampNeg else zGm d k 0 v.toNatClampNeg climber.toNatClampNeg), S, E) else zerrE 1 S E
abbrev zPmeet (d : zDt) (k c1 c2 : Nat) : Nat → Prop := fun q => zPm d k 0 q c1 = zPm d k 0 q c2
def zmt (d : zDt) (k c1 c2 most : Nat) : Int32 := if zfind (zPmeet d k c1 c2) (most + 1) 0 ≤ most then nI (zfind (zPmeet d k c1 c2) (most + 1) 0) else -1
def zo_meet (S E : Nat → Int32) (k : Nat) (d : zDt) (c1 c2 : Int32) : zOut := if zin c1 k ∧ zin c2 k ∧ ¬ c1 = c2 then (if zmt d k c1.toNatClampNeg c2.toNatClampNeg 200 = -1 then zerrE 2 S E else (zmt d k c1.toNatClampNeg c2.toNatClampNeg 200, S, E)) else zerrE 1 S E
set_option maxHeartbeats 4000000 in
set_option maxRecDepth 100000 in
theorem c_X6_whyNot (l : Launch) (D : va_G) (cI cJ : ClassId) (h : Nat) (hs : Nat) (fs : List Value) (S : Nat → Int32) (mi : Nat) (v : Int32) (most : Nat) (hf0 : fs[0]? = some (.ref hs)) (hmi : S 0 = nI mi) (hmi2 : mi ≤ 9999) (hmost : most ≤ 200) : zSi l yX6_whyNot wsX6_whyNot ({ frames := 1, cells := 0, slots := 0, locals := 22 } : Room) D [(cI, .int), (cJ, .array .int)] [.ref h, .int v, .int (nI most)] [(h, .inr (6, fs)), (hs, .inl (cI, 380, .inl S))] (fun r => r = nI ((zwhy v mi most))) := by
  refine zSi.start (cc := cX6_whyNot) (maxL := 3) (rt := .int) (by first | decide | decide +kernel) rfl (Nat.le_of_ble_eq_true rfl) ?_
  intro pg ev s mt args below meth cd ls AA QQ ⟨hx, hb, hml, hr, hlocks, hown, hts, hK, hN, hZ, hP, hD, hA, hS, hl⟩ hret
  have hown : s.vm.findClass RX6 = some mt.cls := hown
  have hl : lv_has ls 3 [(0, .ref h), (1, .int v), (2, .int (nI most))] := hl
  have hin6 : ∀ w ∈ wsX60, w ∈ wsX6_whyNot := fun w h => List.mem_cons_of_mem _ (List.mem_append_right _ (h))
  refine lv_iload_n hx hb dX6_whyNot_0 rfl (lv_at hl 1 rfl) ?_
  refine lv_iconst (v := nI 1) hx hb dX6_whyNot_1 (by decide) ?_
  refine lv_iload_n hx hb dX6_whyNot_2 rfl (lv_at hl 2 rfl) ?_
  refine zcsE (va_runS (As := [.int v, .int (nI 1), .int (nI most)]) (rest := []) ⟨hx, hb, hml, hown, hts⟩ (d_X6_in l D cI cJ v (nI 1) (nI most) 1 ((most : Int)) (by decide) (nI_toInt (by omega)) s.heap.size) (va_cwS 3 hts gX6_whyNot_X6_in rfl rfl rfl (by decide +kernel) ⟨Nat.le_of_ble_eq_true rfl, Nat.le_of_ble_eq_true rfl⟩) (zpS hK hN hZ hP hD hS hA [] rfl (by decide)) rfl rfl hl.1 rfl (lv_room (Nat.le_of_ble_eq_true rfl)) dX6_whyNot_3 ⟨Nat.zero_le _, Nat.zero_le _⟩) ?_
  refine lv_if_ne (tgt := 13) hx hb dX6_whyNot_6 (by decide) (fun c6_1 => ?_) (fun c6_1 => ?_)
  · have c6_1 := bI_n0.mp c6_1
    have hz9 := c6_1
    obtain ⟨j, h_j, rfl⟩ : ∃ q : Nat, q ≤ most ∧ v = nI q := zrg_of (U := most) ⟨by have h91 := (c6_1).1; omega, (c6_1).2⟩ (by omega)
    refine lv_aload_n hx hb dX6_whyNot_13 rfl (lv_at hl 0 rfl) ?_
    refine va_get (ci := 6) (v := .ref hs) (C := RX6) (T := TX6) (N := 20) hx hb hts hin6 hown hK hP 0 rfl rfl 0 (by decide) (hts (.fieldLink RX6 7 "UpAllRoundModel" "s" "[I") (List.mem_of_getElem? (i := 1) rfl)) (fun _ h9 => h9) hf0 dX6_whyNot_14 ?_
    refine lv_iconst (v := nI 0) hx hb dX6_whyNot_17 (by decide) ?_
    refine zald (t := 0) hx hb hK hP 1 rfl (by omega) (by decide) dX6_whyNot_18 ?_
    refine zrw hmi ?_
    refine lv_iload_n hx hb dX6_whyNot_19 rfl (lv_at hl 1 rfl) ?_
    refine lv_iadd hx hb dX6_whyNot_20 ?_
    refine zrw (nI_add _ _) ?_
    refine lv_sipush (v := nI 9999) hx hb dX6_whyNot_21 (by decide) ?_
    refine lv_icmp_le (tgt := 31) hx hb dX6_whyNot_24 (by decide) (fun c24_2 => ?_) (fun c24_2 => ?_)
    · have c24_2 : (mi + j) ≤ 9999 := (nI_leI (a := mi + j) (b := 9999) (by omega) (by omega)).mp c24_2
      refine lv_iconst (v := nI 0) hx hb dX6_whyNot_31 (by decide) ?_
      exact hret dX6_whyNot_32 rfl (by rw [zwhy, if_pos hz9, if_neg (by rw [nI_clamp (show j < 2147483648 by omega)]; omega)])
    · have c24_2 : ¬ ((mi + j) ≤ 9999) := fun h9 => c24_2 ((nI_leI (a := mi + j) (b := 9999) (by omega) (by omega)).mpr h9)
      refine lv_iconst (v := nI 3) hx hb dX6_whyNot_27 (by decide) ?_
      refine lv_goto (tgt := 32) hx hb dX6_whyNot_28 (by decide) ?_
      exact hret dX6_whyNot_32 rfl (by rw [zwhy, if_pos hz9, if_pos (by rw [nI_clamp (show j < 2147483648 by omega)]; omega)])
  · have c6_1 := bI_0.mp c6_1
    refine lv_iconst (v := nI 1) hx hb dX6_whyNot_9 (by decide) ?_
    refine lv_goto (tgt := 32) hx hb dX6_whyNot_10 (by decide) ?_
    exact hret dX6_whyNot_32 rfl (by rw [zwhy, if_neg (by assumption)])
set_option maxHeartbeats 4000000 in
set_option maxRecDepth 100000 in
theorem c_X6_minutes (l : Launch) (D : va_G) (cI cJ : ClassId) (h : Nat) (hs : Nat) (hE : Nat) (fs : List Value) (S : Nat → Int32) (E : Nat → Int32) (n : Nat) (k : Nat) (hN9 : Nat) (hp : Nat) (hL : Nat) (NM : Nat → Int32) (PI : Nat → Int32) (L : Nat → Int32) (len0 : Nat) (tk0 : zTk) (mi : Nat) (v : Int32) (hf0 : fs[0]? = some (.ref hs)) (hf4 : fs[4]? = some (.ref hE)) (hn1 : S 1 = nI n) (hk6 : S 6 = nI k) (hn4 : 4 ≤ n) (hn14 : n ≤ 14) (hkle : k ≤ 6) (hf10 : fs[10]? = some (.ref hN9)) (hf11 : fs[11]? = some (.ref hp)) (hf2 : fs[2]? = some (.ref hL)) (htx0 : zTX S 0 len0 tk0) (hmi : S 0 = nI mi) (hok : zOK (zDS S n len0 tk0 mi) k) : zMi l yX6_minutes wsX6_minutes ({ frames := 6, cells := 0, slots := 0, locals := 141 } : Room) D [(cI, .int), (cJ, .array .int)] [.ref h, .int v] [(h, .inr (6, fs)), (hs, .inl (cI, 380, .inl S)), (hE, .inl (cI, 7, .inl E)), (hN9, .inl (cI, 128, .inl NM)), (hp, .inl (cI, 64, .inl PI)), (hL, .inl (cI, 46, .inl L))] (fun r w => ∃ NM9 PI9 L9 : Nat → Int32, r = (zo_minutes S E k mi (zDS S n len0 tk0 mi) v).1 ∧ w = [(h, .inr (6, fs)), (hs, .inl (cI, 380, .inl ((zo_minutes S E k mi (zDS S n len0 tk0 mi) v).2.1))), (hE, .inl (cI, 7, .inl ((zo_minutes S E k mi (zDS S n len0 tk0 mi) v).2.2))), (hN9, .inl (cI, 128, .inl NM9)), (hp, .inl (cI, 64, .inl PI9)), (hL, .inl (cI, 46, .inl L9))]) := by
  refine zMi.start (cc := cX6_minutes) (maxL := 4) (rt := .int) (by first | decide | decide +kernel) rfl (Nat.le_of_ble_eq_true rfl) ?_
  intro pg ev s mt args below meth cd ls AA QQ ⟨hx, hb, hml, hr, hlocks, hown, hts, hK, hN, hZ, hP, hD, hA, hS, hl⟩ hret
  have hown : s.vm.findClass RX6 = some mt.cls := hown
  have hl : lv_has ls 4 [(0, .ref h), (1, .int v)] := hl
  have hin6 : ∀ w ∈ wsX60, w ∈ wsX6_minutes := fun w h => List.mem_cons_of_mem _ (List.mem_append_right _ (h))
  refine lv_aload_n hx hb dX6_minutes_0 rfl (lv_at hl 0 rfl) ?_
  refine lv_iload_n hx hb dX6_minutes_1 rfl (lv_at hl 1 rfl) ?_
  refine lv_sipush (v := nI 200) hx hb dX6_minutes_2 (by decide) ?_
  refine zcsE (va_runV (As := [.int v, .int (nI 200)]) (rest := []) ⟨hx, hb, hml, hown, hts⟩ (c_X6_whyNot l D cI cJ h hs fs S mi v 200 (by first | rfl | assumption | omega) (by first | rfl | assumption | omega) hok.2.2.2.2.1 (by first | rfl | assumption | omega) s.heap.size) (cwV 2 hts gX6_minutes_X6_whyNot rfl rfl rfl (by decide +kernel) ⟨Nat.le_of_ble_eq_true rfl, Nat.le_of_ble_eq_true rfl⟩) (zpV hK hN hZ hP hD hS hA [0, 1] rfl (by decide) 0 rfl rfl rfl) rfl rfl hl.1 rfl (lv_room (Nat.le_of_ble_eq_true rfl)) dX6_minutes_5 ⟨Nat.zero_le _, Nat.zero_le _⟩) ?_
  refine lv_istore_n (lv' := [(2, .int (nI ((zwhy v mi 200)))), (0, .ref h), (1, .int v)]) hx hb dX6_minutes_8 rfl hl (by decide) rfl (fun ls hl => ?_)
  refine lv_iload_n hx hb dX6_minutes_9 rfl (lv_at hl 0 rfl) ?_
  refine lv_if_eq (tgt := 19) hx hb dX6_minutes_10 (by decide) (fun c10_1 => ?_) (fun c10_1 => ?_)
  · have c10_1 : ((zwhy v mi 200)) = 0 := (nI_eq (a := (zwhy v mi 200)) (b := 0) (by have h98 := zwhy_le v mi 200; omega) (by have h98 := zwhy_le v mi 200; omega)).mp c10_1
    obtain ⟨hz1, hz2⟩ := zwhy_0 c10_1
    have hz9 := c10_1
    obtain ⟨j, h_j, rfl⟩ : ∃ q : Nat, q ≤ 200 ∧ v = nI q := zrg_of (U := 200) ⟨by have h91 := hz1.1; omega, hz1.2⟩ (by decide)
    rw [nI_clamp (show j < 2147483648 by omega)] at hz2
    have hP := zPx (i := 1) (g := zsm S (zDS S n len0 tk0 mi) k 0 0) hP rfl (fun j _ => (congrFun (zsm_start hmi hok) j).symm)
    have hD := zDx (i := 1) (g := zsm S (zDS S n len0 tk0 mi) k 0 0) hD rfl
    have hP : va_P D vwCl [(h, .inr (6, fs)), (hs, .inl (cI, 380, .inl (zsm S (zDS S n len0 tk0 mi) k 0 0))), (hE, .inl (cI, 7, .inl E)), (hN9, .inl (cI, 128, .inl NM)), (hp, .inl (cI, 64, .inl PI)), (hL, .inl (cI, 46, .inl L))] s.heap := hP
    have hD : va_D AA [(h, .inr (6, fs)), (hs, .inl (cI, 380, .inl (zsm S (zDS S n len0 tk0 mi) k 0 0))), (hE, .inl (cI, 7, .inl E)), (hN9, .inl (cI, 128, .inl NM)), (hp, .inl (cI, 64, .inl PI)), (hL, .inl (cI, 46, .inl L))] := hD
    refine lv_iconst (v := nI 0) hx hb dX6_minutes_19 (by decide) ?_
    refine lv_istore_n (lv' := [(3, .int (nI 0)), (2, .int (nI ((zwhy (nI j) mi 200)))), (0, .ref h), (1, .int (nI j))]) hx hb dX6_minutes_20 rfl hl (by decide) rfl (fun ls hl => ?_)
    have L_21 : ∀ (fu i : Nat) (NMv : Nat → Int32) (PIv : Nat → Int32) (hi : i ≤ j) (hn : j + 1 ≤ i + fu) , ∀ (ls : Array Slot), lv_has ls 4 [(0, .ref h), (1, .int (nI j)), (2, .int (nI ((zwhy (nI j) mi 200)))), (3, .int (nI i))] → ∀ (H : Heap) (locs : List Loc), va_P D vwCl [(h, .inr (6, fs)), (hs, .inl (cI, 380, .inl (zsm S (zDS S n len0 tk0 mi) k 0 i))), (hE, .inl (cI, 7, .inl E)), (hN9, .inl (cI, 128, .inl NMv)), (hp, .inl (cI, 64, .inl PIv)), (hL, .inl (cI, 46, .inl L))] H → va_D AA [(h, .inr (6, fs)), (hs, .inl (cI, 380, .inl (zsm S (zDS S n len0 tk0 mi) k 0 i))), (hE, .inl (cI, 7, .inl E)), (hN9, .inl (cI, 128, .inl NMv)), (hp, .inl (cI, 64, .inl PIv)), (hL, .inl (cI, 46, .inl L))] → va_S AA s.heap H locs → W pg l ev ({ frames := 6, cells := 0, slots := 0, locals := 141 } : Room) s mt args below meth cd H locs 0 0 QQ (F0 mt 21 ls []) := by
      intro fu
      induction fu with
      | zero =>
        intro i NMv PIv hi hn
        exact absurd hn (by omega)
      | succ fu ih_21 =>
        intro i NMv PIv hi hn  ls hl H locs hP hD hS
        refine lv_iload_n hx hb dX6_minutes_21 rfl (lv_at hl 3 rfl) ?_
        refine lv_iload_n hx hb dX6_minutes_22 rfl (lv_at hl 1 rfl) ?_
        refine lv_icmp_ge (tgt := 36) hx hb dX6_minutes_23 (by decide) (fun c23_2 => ?_) (fun c23_2 => ?_)
        · have c23_2 : j ≤ i := (nI_leI (a := j) (b := i) (by omega) (by omega)).mp c23_2
          refine lv_aload_n hx hb dX6_minutes_36 rfl (lv_at hl 0 rfl) ?_
          refine zcsE (va_runV (As := []) (rest := []) ⟨hx, hb, hml, hown, hts⟩ (c_X6_pairs l D cI cJ h hs fs (zsm S (zDS S n len0 tk0 mi) k 0 i) k (by first | rfl | assumption | omega) (by rw [zsm_o (by omega) (by omega)]; exact hk6) (by first | rfl | assumption | omega) H.size) (cwV 0 hts gX6_minutes_X6_pairs rfl rfl rfl (by decide +kernel) ⟨Nat.le_of_ble_eq_true rfl, Nat.le_of_ble_eq_true rfl⟩) (zpV hK hN hZ hP hD hS hA [0, 1] rfl (by decide) 0 rfl rfl rfl) rfl rfl hl.1 rfl (lv_room (Nat.le_of_ble_eq_true rfl)) dX6_minutes_37 ⟨Nat.zero_le _, Nat.zero_le _⟩) ?_
          exact hret hP hD hS dX6_minutes_40 rfl (by rw [show zo_minutes S E k mi (zDS S n len0 tk0 mi) (nI j) = (zpairs (zPm (zDS S n len0 tk0 mi) k 0 j) k, zsm S (zDS S n len0 tk0 mi) k 0 j, E) from by rw [zo_minutes, if_pos hz9, nI_clamp (show j < 2147483648 by omega)]]; rw [show i = j from by omega]; exact ⟨_, _, _, (show zpairs (fun c => zsm S (zDS S n len0 tk0 mi) k 0 j (8 + 4 * c + 2)) k = zpairs (zPm (zDS S n len0 tk0 mi) k 0 j) k from zpairs_c (fun c hc => zsm_P hc)), rfl⟩)
        · have c23_2 : ¬ (j ≤ i) := fun h9 => c23_2 ((nI_leI (a := j) (b := i) (by omega) (by omega)).mpr h9)
          refine lv_aload_n hx hb dX6_minutes_26 rfl (lv_at hl 0 rfl) ?_
          refine zcv (wr := [(hE, .inl (cI, 7, .inl E)), (hL, .inl (cI, 46, .inl L))]) (va_runV (As := []) (rest := []) ⟨hx, hb, hml, hown, hts⟩ (c_X6_minute l D cI cJ h hs hN9 hp fs S NMv PIv n len0 tk0 k mi i (by first | rfl | assumption | omega) (by first | rfl | assumption | omega) (by first | rfl | assumption | omega) htx0 (by first | rfl | assumption | omega) (by first | rfl | assumption | omega) (by first | rfl | assumption | omega) (by omega) H.size) (cwV 0 hts gX6_minutes_X6_minute rfl rfl rfl (by decide +kernel) ⟨Nat.le_of_ble_eq_true rfl, Nat.le_of_ble_eq_true rfl⟩) (zpV hK hN hZ hP hD hS hA [0, 1, 3, 4] rfl (by decide) 0 rfl rfl rfl) rfl rfl hl.1 rfl (lv_room (Nat.le_of_ble_eq_true rfl)) dX6_minutes_27 ⟨Nat.zero_le _, Nat.zero_le _⟩) hP hD hS hA [0, 1, 3, 4] [2, 5] rfl rfl (by decide) (by decide) (fun w_4 H locs h_3 hP hD hS => ?_)
          obtain ⟨NM9_5, PI9_6, rfl⟩ := h_3
          have hP : va_P D vwCl [(hE, .inl (cI, 7, .inl E)), (hL, .inl (cI, 46, .inl L)), (h, .inr (6, fs)), (hs, .inl (cI, 380, .inl (zsm S (zDS S n len0 tk0 mi) k 0 (i + 1)))), (hN9, .inl (cI, 128, .inl NM9_5)), (hp, .inl (cI, 64, .inl PI9_6))] H := hP
          have hD : va_D AA [(hE, .inl (cI, 7, .inl E)), (hL, .inl (cI, 46, .inl L)), (h, .inr (6, fs)), (hs, .inl (cI, 380, .inl (zsm S (zDS S n len0 tk0 mi) k 0 (i + 1)))), (hN9, .inl (cI, 128, .inl NM9_5)), (hp, .inl (cI, 64, .inl PI9_6))] := hD
          refine lv_iinc (v := nI (i + 1)) (lv' := [(3, .int (nI (i + 1))), (0, .ref h), (1, .int (nI j)), (2, .int (nI ((zwhy (nI j) mi 200))))]) hx hb dX6_minutes_30 hl (k := 3) rfl (nI_add _ _) (by decide) rfl (fun ls hl => ?_)
          refine lv_goto (tgt := 21) hx hb dX6_minutes_33 (by decide) ?_
          exact ih_21  (i + 1) NM9_5 PI9_6 (by omega) (by omega)  ls (lv_sub hl [1, 2, 3, 0] rfl) H locs (hP.sub [2, 3, 0, 4, 5, 1] rfl) (hD.sub [2, 3, 0, 4, 5, 1] (by decide) rfl) hS
    exact L_21 (j + 1) 0 NM PI (by omega) (by omega)  ls (lv_sub hl [2, 3, 1, 0] rfl) _ _ hP hD hS
  · have c10_1 : ¬ (((zwhy v mi 200)) = 0) := fun h9 => c10_1 ((nI_eq (a := (zwhy v mi 200)) (b := 0) (by have h98 := zwhy_le v mi 200; omega) (by have h98 := zwhy_le v mi 200; omega)).mpr h9)
    refine lv_aload_n hx hb dX6_minutes_13 rfl (lv_at hl 1 rfl) ?_
    refine lv_iload_n hx hb dX6_minutes_14 rfl (lv_at hl 0 rfl) ?_
    refine zci (wr := [(hs, .inl (cI, 380, .inl S)), (hN9, .inl (cI, 128, .inl NM)), (hp, .inl (cI, 64, .inl PI)), (hL, .inl (cI, 46, .inl L))]) (va_runV (As := [.int (nI ((zwhy v mi 200)))]) (rest := []) ⟨hx, hb, hml, hown, hts⟩ (c_X6_error l D cI cJ h hE fs E ((zwhy v mi 200)) (by first | rfl | assumption | omega) (by have h98 := zwhy_le v mi 200; omega) s.heap.size) (cwV 1 hts gX6_minutes_X6_error rfl rfl rfl (by decide +kernel) ⟨Nat.le_of_ble_eq_true rfl, Nat.le_of_ble_eq_true rfl⟩) (zpV hK hN hZ hP hD hS hA [0, 2] rfl (by decide) 0 rfl rfl rfl) rfl rfl hl.1 rfl (lv_room (Nat.le_of_ble_eq_true rfl)) dX6_minutes_15 ⟨Nat.zero_le _, Nat.zero_le _⟩) hP hD hS hA [0, 2] [1, 3, 4, 5] rfl rfl (by decide) (by decide) (fun r_9 w_8 H locs h_7 hP hD hS => ?_)
    obtain ⟨rfl, rfl⟩ := h_7
    have hP : va_P D vwCl [(hs, .inl (cI, 380, .inl S)), (hN9, .inl (cI, 128, .inl NM)), (hp, .inl (cI, 64, .inl PI)), (hL, .inl (cI, 46, .inl L)), (h, .inr (6, fs)), (hE, .inl (cI, 7, .inl (upd E ((zwhy v mi 200)) (E ((zwhy v mi 200)) + nI 1))))] H := hP
    have hD : va_D AA [(hs, .inl (cI, 380, .inl S)), (hN9, .inl (cI, 128, .inl NM)), (hp, .inl (cI, 64, .inl PI)), (hL, .inl (cI, 46, .inl L)), (h, .inr (6, fs)), (hE, .inl (cI, 7, .inl (upd E ((zwhy v mi 200)) (E ((zwhy v mi 200)) + nI 1))))] := hD
    have hP := hP.sub (ws' := [(h, .inr (6, fs)), (hs, .inl (cI, 380, .inl S)), (hE, .inl (cI, 7, .inl (upd E ((zwhy v mi 200)) (E ((zwhy v mi 200)) + nI 1)))), (hN9, .inl (cI, 128, .inl NM)), (hp, .inl (cI, 64, .inl PI)), (hL, .inl (cI, 46, .inl L))]) [4, 0, 5, 1, 2, 3] rfl
    have hD := hD.sub (ws' := [(h, .inr (6, fs)), (hs, .inl (cI, 380, .inl S)), (hE, .inl (cI, 7, .inl (upd E ((zwhy v mi 200)) (E ((zwhy v mi 200)) + nI 1)))), (hN9, .inl (cI, 128, .inl NM)), (hp, .inl (cI, 64, .inl PI)), (hL, .inl (cI, 46, .inl L))]) [4, 0, 5, 1, 2, 3] (by decide) rfl
    exact hret hP hD hS dX6_minutes_18 rfl (by rw [show zo_minutes S E k mi (zDS S n len0 tk0 mi) v = zerrE (zwhy v mi 200) S E from if_neg (by assumption)]; exact ⟨_, _, _, rfl, rfl⟩)
set_option maxHeartbeats 4000000 in
set_option maxRecDepth 100000 in
theorem c_X6_then (l : Launch) (D : va_G) (cI cJ : ClassId) (h : Nat) (hs : Nat) (hE : Nat) (fs : List Value) (S : Nat → Int32) (E : Nat → Int32) (n : Nat) (k : Nat) (hN9 : Nat) (hp : Nat) (hL : Nat) (NM : Nat → Int32) (PI : Nat → Int32) (L : Nat → Int32) (len0 : Nat) (tk0 : zTk) (mi : Nat) (v : Int32) (climber : Int32) (what : Int32) (hf0 : fs[0]? = some (.ref hs)) (hf4 : fs[4]? = some (.ref hE)) (hn1 : S 1 = nI n) (hk6 : S 6 = nI k) (hn4 : 4 ≤ n) (hn14 : n ≤ 14) (hkle : k ≤ 6) (hf10 : fs[10]? = some (.ref hN9)) (hf11 : fs[11]? = some (.ref hp)) (hf2 : fs[2]? = some (.ref hL)) (htx0 : zTX S 0 len0 tk0) (hmi : S 0 = nI mi) (hok : zOK (zDS S n len0 tk0 mi) k) : zMi l yX6_then wsX6_then ({ frames := 6, cells := 0, slots := 0, locals := 141 } : Room) D [(cI, .int), (cJ, .array .int)] [.ref h, .int v, .int climber, .int what] [(h, .inr (6, fs)), (hs, .inl (cI, 380, .inl S)), (hE, .inl (cI, 7, .inl E)), (hN9, .inl (cI, 128, .inl NM)), (hp, .inl (cI, 64, .inl PI)), (hL, .inl (cI, 46, .inl L))] (fun r w => ∃ NM9 PI9 L9 : Nat → Int32, r = (zo_then S E k (zDS S n len0 tk0 mi) v climber what).1 ∧ w = [(h, .inr (6, fs)), (hs, .inl (cI, 380, .inl ((zo_then S E k (zDS S n len0 tk0 mi) v climber what).2.1))), (hE, .inl (cI, 7, .inl ((zo_then S E k (zDS S n len0 tk0 mi) v climber what).2.2))), (hN9, .inl (cI, 128, .inl NM9)), (hp, .inl (cI, 64, .inl PI9)), (hL, .inl (cI, 46, .inl L9))]) := by
  refine zMi.start (cc := cX6_then) (maxL := 5) (rt := .int) (by first | decide | decide +kernel) rfl (Nat.le_of_ble_eq_true rfl) ?_
  intro pg ev s mt args below meth cd ls AA QQ ⟨hx, hb, hml, hr, hlocks, hown, hts, hK, hN, hZ, hP, hD, hA, hS, hl⟩ hret
  have hown : s.vm.findClass RX6 = some mt.cls := hown
  have hl : lv_has ls 5 [(0, .ref h), (1, .int v), (2, .int climber), (3, .int what)] := hl
  have hin6 : ∀ w ∈ wsX60, w ∈ wsX6_then := fun w h => List.mem_cons_of_mem _ (List.mem_append_right _ (h))
  refine lv_iload_n hx hb dX6_then_0 rfl (lv_at hl 1 rfl) ?_
  refine lv_iconst (v := nI 0) hx hb dX6_then_1 (by decide) ?_
  refine lv_sipush (v := nI 200) hx hb dX6_then_2 (by decide) ?_
  refine zcsE (va_runS (As := [.int v, .int (nI 0), .int (nI 200)]) (rest := []) ⟨hx, hb, hml, hown, hts⟩ (d_X6_in l D cI cJ v (nI 0) (nI 200) 0 200 (by decide) (by decide) s.heap.size) (va_cwS 3 hts gX6_then_X6_in rfl rfl rfl (by decide +kernel) ⟨Nat.le_of_ble_eq_true rfl, Nat.le_of_ble_eq_true rfl⟩) (zpS hK hN hZ hP hD hS hA [] rfl (by decide)) rfl rfl hl.1 rfl (lv_room (Nat.le_of_ble_eq_true rfl)) dX6_then_5 ⟨Nat.zero_le _, Nat.zero_le _⟩) ?_
  refine lv_if_eq (tgt := 28) hx hb dX6_then_8 (by decide) (fun c8_1 => ?_) (fun c8_1 => ?_)
  · have c8_1 := bI_0.mp c8_1
    refine lv_aload_n hx hb dX6_then_28 rfl (lv_at hl 0 rfl) ?_
    refine lv_iconst (v := nI 1) hx hb dX6_then_29 (by decide) ?_
    refine zci (wr := [(hs, .inl (cI, 380, .inl S)), (hN9, .inl (cI, 128, .inl NM)), (hp, .inl (cI, 64, .inl PI)), (hL, .inl (cI, 46, .inl L))]) (va_runV (As := [.int (nI 1)]) (rest := []) ⟨hx, hb, hml, hown, hts⟩ (c_X6_error l D cI cJ h hE fs E 1 (by first | rfl | assumption | omega) (by first | rfl | assumption | omega) s.heap.size) (cwV 1 hts gX6_then_X6_error rfl rfl rfl (by decide +kernel) ⟨Nat.le_of_ble_eq_true rfl, Nat.le_of_ble_eq_true rfl⟩) (zpV hK hN hZ hP hD hS hA [0, 2] rfl (by decide) 0 rfl rfl rfl) rfl rfl hl.1 rfl (lv_room (Nat.le_of_ble_eq_true rfl)) dX6_then_30 ⟨Nat.zero_le _, Nat.zero_le _⟩) hP hD hS hA [0, 2] [1, 3, 4, 5] rfl rfl (by decide) (by decide) (fun r_4 w_3 H locs h_2 hP hD hS => ?_)
    obtain ⟨rfl, rfl⟩ := h_2
    have hP : va_P D vwCl [(hs, .inl (cI, 380, .inl S)), (hN9, .inl (cI, 128, .inl NM)), (hp, .inl (cI, 64, .inl PI)), (hL, .inl (cI, 46, .inl L)), (h, .inr (6, fs)), (hE, .inl (cI, 7, .inl (upd E 1 (E 1 + nI 1))))] H := hP
    have hD : va_D AA [(hs, .inl (cI, 380, .inl S)), (hN9, .inl (cI, 128, .inl NM)), (hp, .inl (cI, 64, .inl PI)), (hL, .inl (cI, 46, .inl L)), (h, .inr (6, fs)), (hE, .inl (cI, 7, .inl (upd E 1 (E 1 + nI 1))))] := hD
    have hP := hP.sub (ws' := [(h, .inr (6, fs)), (hs, .inl (cI, 380, .inl S)), (hE, .inl (cI, 7, .inl (upd E 1 (E 1 + nI 1)))), (hN9, .inl (cI, 128, .inl NM)), (hp, .inl (cI, 64, .inl PI)), (hL, .inl (cI, 46, .inl L))]) [4, 0, 5, 1, 2, 3] rfl
    have hD := hD.sub (ws' := [(h, .inr (6, fs)), (hs, .inl (cI, 380, .inl S)), (hE, .inl (cI, 7, .inl (upd E 1 (E 1 + nI 1)))), (hN9, .inl (cI, 128, .inl NM)), (hp, .inl (cI, 64, .inl PI)), (hL, .inl (cI, 46, .inl L))]) [4, 0, 5, 1, 2, 3] (by decide) rfl
    exact hret hP hD hS dX6_then_33 rfl (by rw [show zo_then S E k (zDS S n len0 tk0 mi) v climber what = zerrE 1 S E from if_neg (by intro h9; first | exact absurd h9.1 (by assumption) | exact absurd h9.2.1 (by assumption) | exact absurd h9.2.2 (by assumption))]; exact ⟨_, _, _, rfl, rfl⟩)
  · have c8_1 := bI_n0.mp c8_1
    obtain ⟨v9, h_v9, rfl⟩ : ∃ q : Nat, q ≤ 200 ∧ v = nI q := zrg_of c8_1 (by decide)
    refine lv_aload_n hx hb dX6_then_11 rfl (lv_at hl 0 rfl) ?_
    refine lv_iload_n hx hb dX6_then_12 rfl (lv_at hl 2 rfl) ?_
    refine zcsE (va_runV (As := [.int climber]) (rest := []) ⟨hx, hb, hml, hown, hts⟩ (c_X6_isClimber l D cI cJ h hs fs S k climber (by first | rfl | assumption | omega) (by first | rfl | assumption | omega) (by first | rfl | assumption | omega) s.heap.size) (cwV 1 hts gX6_then_X6_isClimber rfl rfl rfl (by decide +kernel) ⟨Nat.le_of_ble_eq_true rfl, Nat.le_of_ble_eq_true rfl⟩) (zpV hK hN hZ hP hD hS hA [0, 1] rfl (by decide) 0 rfl rfl rfl) rfl rfl hl.1 rfl (lv_room (Nat.le_of_ble_eq_true rfl)) dX6_then_13 ⟨Nat.zero_le _, Nat.zero_le _⟩) ?_
    refine lv_if_eq (tgt := 28) hx hb dX6_then_16 (by decide) (fun c16_5 => ?_) (fun c16_5 => ?_)
    · have c16_5 := bI_0.mp c16_5
      refine lv_aload_n hx hb dX6_then_28 rfl (lv_at hl 0 rfl) ?_
      refine lv_iconst (v := nI 1) hx hb dX6_then_29 (by decide) ?_
      refine zci (wr := [(hs, .inl (cI, 380, .inl S)), (hN9, .inl (cI, 128, .inl NM)), (hp, .inl (cI, 64, .inl PI)), (hL, .inl (cI, 46, .inl L))]) (va_runV (As := [.int (nI 1)]) (rest := []) ⟨hx, hb, hml, hown, hts⟩ (c_X6_error l D cI cJ h hE fs E 1 (by first | rfl | assumption | omega) (by first | rfl | assumption | omega) s.heap.size) (cwV 1 hts gX6_then_X6_error rfl rfl rfl (by decide +kernel) ⟨Nat.le_of_ble_eq_true rfl, Nat.le_of_ble_eq_true rfl⟩) (zpV hK hN hZ hP hD hS hA [0, 2] rfl (by decide) 0 rfl rfl rfl) rfl rfl hl.1 rfl (lv_room (Nat.le_of_ble_eq_true rfl)) dX6_then_30 ⟨Nat.zero_le _, Nat.zero_le _⟩) hP hD hS hA [0, 2] [1, 3, 4, 5] rfl rfl (by decide) (by decide) (fun r_8 w_7 H locs h_6 hP hD hS => ?_)
      obtain ⟨rfl, rfl⟩ := h_6
      have hP : va_P D vwCl [(hs, .inl (cI, 380, .inl S)), (hN9, .inl (cI, 128, .inl NM)), (hp, .inl (cI, 64, .inl PI)), (hL, .inl (cI, 46, .inl L)), (h, .inr (6, fs)), (hE, .inl (cI, 7, .inl (upd E 1 (E 1 + nI 1))))] H := hP
      have hD : va_D AA [(hs, .inl (cI, 380, .inl S)), (hN9, .inl (cI, 128, .inl NM)), (hp, .inl (cI, 64, .inl PI)), (hL, .inl (cI, 46, .inl L)), (h, .inr (6, fs)), (hE, .inl (cI, 7, .inl (upd E 1 (E 1 + nI 1))))] := hD
      have hP := hP.sub (ws' := [(h, .inr (6, fs)), (hs, .inl (cI, 380, .inl S)), (hE, .inl (cI, 7, .inl (upd E 1 (E 1 + nI 1)))), (hN9, .inl (cI, 128, .inl NM)), (hp, .inl (cI, 64, .inl PI)), (hL, .inl (cI, 46, .inl L))]) [4, 0, 5, 1, 2, 3] rfl
      have hD := hD.sub (ws' := [(h, .inr (6, fs)), (hs, .inl (cI, 380, .inl S)), (hE, .inl (cI, 7, .inl (upd E 1 (E 1 + nI 1)))), (hN9, .inl (cI, 128, .inl NM)), (hp, .inl (cI, 64, .inl PI)), (hL, .inl (cI, 46, .inl L))]) [4, 0, 5, 1, 2, 3] (by decide) rfl
      exact hret hP hD hS dX6_then_33 rfl (by rw [show zo_then S E k (zDS S n len0 tk0 mi) (nI v9) climber what = zerrE 1 S E from if_neg (by intro h9; first | exact absurd h9.1 (by assumption) | exact absurd h9.2.1 (by assumption) | exact absurd h9.2.2 (by assumption))]; exact ⟨_, _, _, rfl, rfl⟩)
    · have c16_5 := bI_n0.mp c16_5
      obtain ⟨j, h_j, rfl⟩ := zin_of c16_5 (by omega)
      refine lv_iload_n hx hb dX6_then_19 rfl (lv_at hl 3 rfl) ?_
      refine lv_iconst (v := nI 0) hx hb dX6_then_20 (by decide) ?_
      refine lv_iconst (v := nI 1) hx hb dX6_then_21 (by decide) ?_
      refine zcsE (va_runS (As := [.int what, .int (nI 0), .int (nI 1)]) (rest := []) ⟨hx, hb, hml, hown, hts⟩ (d_X6_in l D cI cJ what (nI 0) (nI 1) 0 1 (by decide) (by decide) s.heap.size) (va_cwS 3 hts gX6_then_X6_in rfl rfl rfl (by decide +kernel) ⟨Nat.le_of_ble_eq_true rfl, Nat.le_of_ble_eq_true rfl⟩) (zpS hK hN hZ hP hD hS hA [] rfl (by decide)) rfl rfl hl.1 rfl (lv_room (Nat.le_of_ble_eq_true rfl)) dX6_then_22 ⟨Nat.zero_le _, Nat.zero_le _⟩) ?_
      refine lv_if_ne (tgt := 34) hx hb dX6_then_25 (by decide) (fun c25_9 => ?_) (fun c25_9 => ?_)
      · have c25_9 := bI_n0.mp c25_9
        obtain ⟨w9, h_w9, rfl⟩ : ∃ q : Nat, q ≤ 1 ∧ what = nI q := zrg_of c25_9 (by decide)
        rcases (show w9 = 0 ∨ w9 = 1 from by omega) with h9 | h9
        · subst h9
          refine lv_aload_n hx hb dX6_then_34 rfl (lv_at hl 0 rfl) ?_
          refine zcv (wr := [(hE, .inl (cI, 7, .inl E)), (hN9, .inl (cI, 128, .inl NM)), (hp, .inl (cI, 64, .inl PI))]) (va_runV (As := []) (rest := []) ⟨hx, hb, hml, hown, hts⟩ (c_X6_layDown l D cI cJ h hs hL fs S L (by first | rfl | assumption | omega) (by first | rfl | assumption | omega) s.heap.size) (cwV 0 hts gX6_then_X6_layDown rfl rfl rfl (by decide +kernel) ⟨Nat.le_of_ble_eq_true rfl, Nat.le_of_ble_eq_true rfl⟩) (zpV hK hN hZ hP hD hS hA [0, 1, 5] rfl (by decide) 0 rfl rfl rfl) rfl rfl hl.1 rfl (lv_room (Nat.le_of_ble_eq_true rfl)) dX6_then_35 ⟨Nat.zero_le _, Nat.zero_le _⟩) hP hD hS hA [0, 1, 5] [2, 3, 4] rfl rfl (by decide) (by decide) (fun w_11 H locs h_10 hP hD hS => ?_)
          obtain rfl := h_10
          have hP : va_P D vwCl [(hE, .inl (cI, 7, .inl E)), (hN9, .inl (cI, 128, .inl NM)), (hp, .inl (cI, 64, .inl PI)), (h, .inr (6, fs)), (hs, .inl (cI, 380, .inl S)), (hL, .inl (cI, 46, .inl (zcp S L 46)))] H := hP
          have hD : va_D AA [(hE, .inl (cI, 7, .inl E)), (hN9, .inl (cI, 128, .inl NM)), (hp, .inl (cI, 64, .inl PI)), (h, .inr (6, fs)), (hs, .inl (cI, 380, .inl S)), (hL, .inl (cI, 46, .inl (zcp S L 46)))] := hD
          have hP := zPx (i := 4) (g := zsm S (zDS S n len0 tk0 mi) k 0 0) hP rfl (fun j _ => (congrFun (zsm_start hmi hok) j).symm)
          have hD := zDx (i := 4) (g := zsm S (zDS S n len0 tk0 mi) k 0 0) hD rfl
          have hP : va_P D vwCl [(hE, .inl (cI, 7, .inl E)), (hN9, .inl (cI, 128, .inl NM)), (hp, .inl (cI, 64, .inl PI)), (h, .inr (6, fs)), (hs, .inl (cI, 380, .inl (zsm S (zDS S n len0 tk0 mi) k 0 0))), (hL, .inl (cI, 46, .inl (zcp S L 46)))] H := hP
          have hD : va_D AA [(hE, .inl (cI, 7, .inl E)), (hN9, .inl (cI, 128, .inl NM)), (hp, .inl (cI, 64, .inl PI)), (h, .inr (6, fs)), (hs, .inl (cI, 380, .inl (zsm S (zDS S n len0 tk0 mi) k 0 0))), (hL, .inl (cI, 46, .inl (zcp S L 46)))] := hD
          refine lv_iconst (v := nI 0) hx hb dX6_then_38 (by decide) ?_
          refine lv_istore (lv' := [(4, .int (nI 0)), (0, .ref h), (1, .int (nI v9)), (2, .int (nI j)), (3, .int (nI 0))]) hx hb dX6_then_39 hl (by decide) rfl (fun ls hl => ?_)
          have L_41 : ∀ (fu i : Nat) (NMv : Nat → Int32) (PIv : Nat → Int32) (hi : i ≤ v9) (hn : v9 + 1 ≤ i + fu) , ∀ (ls : Array Slot), lv_has ls 5 [(0, .ref h), (1, .int (nI v9)), (2, .int (nI j)), (3, .int (nI 0)), (4, .int (nI i))] → ∀ (H : Heap) (locs : List Loc), va_P D vwCl [(h, .inr (6, fs)), (hs, .inl (cI, 380, .inl (zsm S (zDS S n len0 tk0 mi) k 0 i))), (hE, .inl (cI, 7, .inl E)), (hN9, .inl (cI, 128, .inl NMv)), (hp, .inl (cI, 64, .inl PIv)), (hL, .inl (cI, 46, .inl (zcp S L 46)))] H → va_D AA [(h, .inr (6, fs)), (hs, .inl (cI, 380, .inl (zsm S (zDS S n len0 tk0 mi) k 0 i))), (hE, .inl (cI, 7, .inl E)), (hN9, .inl (cI, 128, .inl NMv)), (hp, .inl (cI, 64, .inl PIv)), (hL, .inl (cI, 46, .inl (zcp S L 46)))] → va_S AA s.heap H locs → W pg l ev ({ frames := 6, cells := 0, slots := 0, locals := 141 } : Room) s mt args below meth cd H locs 0 0 QQ (F0 mt 41 ls []) := by
            intro fu
            induction fu with
            | zero =>
              intro i NMv PIv hi hn
              exact absurd hn (by omega)
            | succ fu ih_41 =>
              intro i NMv PIv hi hn  ls hl H locs hP hD hS
              refine lv_iload hx hb dX6_then_41 (lv_at hl 4 rfl) ?_
              refine lv_iload_n hx hb dX6_then_43 rfl (lv_at hl 1 rfl) ?_
              refine lv_icmp_ge (tgt := 57) hx hb dX6_then_44 (by decide) (fun c44_12 => ?_) (fun c44_12 => ?_)
              · have c44_12 : v9 ≤ i := (nI_leI (a := v9) (b := i) (by omega) (by omega)).mp c44_12
                refine lv_aload_n hx hb dX6_then_57 rfl (lv_at hl 0 rfl) ?_
                refine lv_iload_n hx hb dX6_then_58 rfl (lv_at hl 2 rfl) ?_
                refine lv_iconst (v := nI 2) hx hb dX6_then_59 (by decide) ?_
                refine lv_iload_n hx hb dX6_then_60 rfl (lv_at hl 3 rfl) ?_
                refine lv_iadd hx hb dX6_then_61 ?_
                refine zrw (nI_add _ _) ?_
                refine zcsE (va_runV (As := [.int (nI j), .int (nI 2)]) (rest := []) ⟨hx, hb, hml, hown, hts⟩ (c_X6_its l D cI cJ h hs fs (zsm S (zDS S n len0 tk0 mi) k 0 i) j 2 (by first | rfl | assumption | omega) (by omega) H.size) (cwV 2 hts gX6_then_X6_its rfl rfl rfl (by decide +kernel) ⟨Nat.le_of_ble_eq_true rfl, Nat.le_of_ble_eq_true rfl⟩) (zpV hK hN hZ hP hD hS hA [0, 1] rfl (by decide) 0 rfl rfl rfl) rfl rfl hl.1 rfl (lv_room (Nat.le_of_ble_eq_true rfl)) dX6_then_62 ⟨Nat.zero_le _, Nat.zero_le _⟩) ?_
                refine lv_istore (lv' := [(4, .int ((zsm S (zDS S n len0 tk0 mi) k 0 i) (8 + 4 * j + 2))), (0, .ref h), (1, .int (nI v9)), (2, .int (nI j)), (3, .int (nI 0))]) hx hb dX6_then_65 hl (by decide) rfl (fun ls hl => ?_)
                refine lv_aload_n hx hb dX6_then_67 rfl (lv_at hl 1 rfl) ?_
                refine zcv (wr := [(hE, .inl (cI, 7, .inl E)), (hN9, .inl (cI, 128, .inl NMv)), (hp, .inl (cI, 64, .inl PIv))]) (va_runV (As := []) (rest := []) ⟨hx, hb, hml, hown, hts⟩ (c_X6_layBack l D cI cJ h hs hL fs (zsm S (zDS S n len0 tk0 mi) k 0 i) (zcp S L 46) (by first | rfl | assumption | omega) (by first | rfl | assumption | omega) H.size) (cwV 0 hts gX6_then_X6_layBack rfl rfl rfl (by decide +kernel) ⟨Nat.le_of_ble_eq_true rfl, Nat.le_of_ble_eq_true rfl⟩) (zpV hK hN hZ hP hD hS hA [0, 1, 5] rfl (by decide) 0 rfl rfl rfl) rfl rfl hl.1 rfl (lv_room (Nat.le_of_ble_eq_true rfl)) dX6_then_68 ⟨Nat.zero_le _, Nat.zero_le _⟩) hP hD hS hA [0, 1, 5] [2, 3, 4] rfl rfl (by decide) (by decide) (fun w_14 H locs h_13 hP hD hS => ?_)
                obtain rfl := h_13
                have hP : va_P D vwCl [(hE, .inl (cI, 7, .inl E)), (hN9, .inl (cI, 128, .inl NMv)), (hp, .inl (cI, 64, .inl PIv)), (h, .inr (6, fs)), (hs, .inl (cI, 380, .inl (zcp (zcp S L 46) (zsm S (zDS S n len0 tk0 mi) k 0 i) 46))), (hL, .inl (cI, 46, .inl ((zcp S L 46))))] H := hP
                have hD : va_D AA [(hE, .inl (cI, 7, .inl E)), (hN9, .inl (cI, 128, .inl NMv)), (hp, .inl (cI, 64, .inl PIv)), (h, .inr (6, fs)), (hs, .inl (cI, 380, .inl (zcp (zcp S L 46) (zsm S (zDS S n len0 tk0 mi) k 0 i) 46))), (hL, .inl (cI, 46, .inl ((zcp S L 46))))] := hD
                have hP := zPx (i := 4) (g := S) hP rfl (fun j _ => congrFun (zback hkle) j)
                have hD := zDx (i := 4) (g := S) hD rfl
                have hP : va_P D vwCl [(hE, .inl (cI, 7, .inl E)), (hN9, .inl (cI, 128, .inl NMv)), (hp, .inl (cI, 64, .inl PIv)), (h, .inr (6, fs)), (hs, .inl (cI, 380, .inl S)), (hL, .inl (cI, 46, .inl ((zcp S L 46))))] H := hP
                have hD : va_D AA [(hE, .inl (cI, 7, .inl E)), (hN9, .inl (cI, 128, .inl NMv)), (hp, .inl (cI, 64, .inl PIv)), (h, .inr (6, fs)), (hs, .inl (cI, 380, .inl S)), (hL, .inl (cI, 46, .inl ((zcp S L 46))))] := hD
                refine lv_iload hx hb dX6_then_71 (lv_at hl 0 rfl) ?_
                have hP := hP.sub (ws' := [(h, .inr (6, fs)), (hs, .inl (cI, 380, .inl S)), (hE, .inl (cI, 7, .inl E)), (hN9, .inl (cI, 128, .inl NMv)), (hp, .inl (cI, 64, .inl PIv)), (hL, .inl (cI, 46, .inl ((zcp S L 46))))]) [3, 4, 0, 1, 2, 5] rfl
                have hD := hD.sub (ws' := [(h, .inr (6, fs)), (hs, .inl (cI, 380, .inl S)), (hE, .inl (cI, 7, .inl E)), (hN9, .inl (cI, 128, .inl NMv)), (hp, .inl (cI, 64, .inl PIv)), (hL, .inl (cI, 46, .inl ((zcp S L 46))))]) [3, 4, 0, 1, 2, 5] (by decide) rfl
                exact hret hP hD hS dX6_then_73 rfl (by rw [show zo_then S E k (zDS S n len0 tk0 mi) (nI v9) (nI j) (nI 0) = (zPm (zDS S n len0 tk0 mi) k 0 v9 j, S, E) from by rw [zo_then, if_pos ⟨by assumption, by assumption, by decide⟩, if_pos rfl, nI_clamp (show v9 < 2147483648 by omega), nI_clamp (show j < 2147483648 by omega)]]; exact ⟨_, _, _, by rw [show i = v9 from by omega]; exact zsm_P (by omega), rfl⟩)
              · have c44_12 : ¬ (v9 ≤ i) := fun h9 => c44_12 ((nI_leI (a := v9) (b := i) (by omega) (by omega)).mpr h9)
                refine lv_aload_n hx hb dX6_then_47 rfl (lv_at hl 0 rfl) ?_
                refine zcv (wr := [(hE, .inl (cI, 7, .inl E)), (hL, .inl (cI, 46, .inl (zcp S L 46)))]) (va_runV (As := []) (rest := []) ⟨hx, hb, hml, hown, hts⟩ (c_X6_minute l D cI cJ h hs hN9 hp fs S NMv PIv n len0 tk0 k mi i (by first | rfl | assumption | omega) (by first | rfl | assumption | omega) (by first | rfl | assumption | omega) htx0 (by first | rfl | assumption | omega) (by first | rfl | assumption | omega) (by first | rfl | assumption | omega) (by omega) H.size) (cwV 0 hts gX6_then_X6_minute rfl rfl rfl (by decide +kernel) ⟨Nat.le_of_ble_eq_true rfl, Nat.le_of_ble_eq_true rfl⟩) (zpV hK hN hZ hP hD hS hA [0, 1, 3, 4] rfl (by decide) 0 rfl rfl rfl) rfl rfl hl.1 rfl (lv_room (Nat.le_of_ble_eq_true rfl)) dX6_then_48 ⟨Nat.zero_le _, Nat.zero_le _⟩) hP hD hS hA [0, 1, 3, 4] [2, 5] rfl rfl (by decide) (by decide) (fun w_16 H locs h_15 hP hD hS => ?_)
                obtain ⟨NM9_17, PI9_18, rfl⟩ := h_15
                have hP : va_P D vwCl [(hE, .inl (cI, 7, .inl E)), (hL, .inl (cI, 46, .inl (zcp S L 46))), (h, .inr (6, fs)), (hs, .inl (cI, 380, .inl (zsm S (zDS S n len0 tk0 mi) k 0 (i + 1)))), (hN9, .inl (cI, 128, .inl NM9_17)), (hp, .inl (cI, 64, .inl PI9_18))] H := hP
                have hD : va_D AA [(hE, .inl (cI, 7, .inl E)), (hL, .inl (cI, 46, .inl (zcp S L 46))), (h, .inr (6, fs)), (hs, .inl (cI, 380, .inl (zsm S (zDS S n len0 tk0 mi) k 0 (i + 1)))), (hN9, .inl (cI, 128, .inl NM9_17)), (hp, .inl (cI, 64, .inl PI9_18))] := hD
                refine lv_iinc (v := nI (i + 1)) (lv' := [(4, .int (nI (i + 1))), (0, .ref h), (1, .int (nI v9)), (2, .int (nI j)), (3, .int (nI 0))]) hx hb dX6_then_51 hl (k := 4) rfl (nI_add _ _) (by decide) rfl (fun ls hl => ?_)
                refine lv_goto (tgt := 41) hx hb dX6_then_54 (by decide) ?_
                exact ih_41  (i + 1) NM9_17 PI9_18 (by omega) (by omega)  ls (lv_sub hl [1, 2, 3, 4, 0] rfl) H locs (hP.sub [2, 3, 0, 4, 5, 1] rfl) (hD.sub [2, 3, 0, 4, 5, 1] (by decide) rfl) hS
          exact L_41 (v9 + 1) 0 NM PI (by omega) (by omega)  ls (lv_sub hl [1, 2, 3, 4, 0] rfl) _ _ (hP.sub [3, 4, 0, 1, 2, 5] rfl) (hD.sub [3, 4, 0, 1, 2, 5] (by decide) rfl) hS
        · subst h9
          refine lv_aload_n hx hb dX6_then_34 rfl (lv_at hl 0 rfl) ?_
          refine zcv (wr := [(hE, .inl (cI, 7, .inl E)), (hN9, .inl (cI, 128, .inl NM)), (hp, .inl (cI, 64, .inl PI))]) (va_runV (As := []) (rest := []) ⟨hx, hb, hml, hown, hts⟩ (c_X6_layDown l D cI cJ h hs hL fs S L (by first | rfl | assumption | omega) (by first | rfl | assumption | omega) s.heap.size) (cwV 0 hts gX6_then_X6_layDown rfl rfl rfl (by decide +kernel) ⟨Nat.le_of_ble_eq_true rfl, Nat.le_of_ble_eq_true rfl⟩) (zpV hK hN hZ hP hD hS hA [0, 1, 5] rfl (by decide) 0 rfl rfl rfl) rfl rfl hl.1 rfl (lv_room (Nat.le_of_ble_eq_true rfl)) dX6_then_35 ⟨Nat.zero_le _, Nat.zero_le _⟩) hP hD hS hA [0, 1, 5] [2, 3, 4] rfl rfl (by decide) (by decide) (fun w_20 H locs h_19 hP hD hS => ?_)
          obtain rfl := h_19
          have hP : va_P D vwCl [(hE, .inl (cI, 7, .inl E)), (hN9, .inl (cI, 128, .inl NM)), (hp, .inl (cI, 64, .inl PI)), (h, .inr (6, fs)), (hs, .inl (cI, 380, .inl S)), (hL, .inl (cI, 46, .inl (zcp S L 46)))] H := hP
          have hD : va_D AA [(hE, .inl (cI, 7, .inl E)), (hN9, .inl (cI, 128, .inl NM)), (hp, .inl (cI, 64, .inl PI)), (h, .inr (6, fs)), (hs, .inl (cI, 380, .inl S)), (hL, .inl (cI, 46, .inl (zcp S L 46)))] := hD
          have hP := zPx (i := 4) (g := zsm S (zDS S n len0 tk0 mi) k 0 0) hP rfl (fun j _ => (congrFun (zsm_start hmi hok) j).symm)
          have hD := zDx (i := 4) (g := zsm S (zDS S n len0 tk0 mi) k 0 0) hD rfl
          have hP : va_P D vwCl [(hE, .inl (cI, 7, .inl E)), (hN9, .inl (cI, 128, .inl NM)), (hp, .inl (cI, 64, .inl PI)), (h, .inr (6, fs)), (hs, .inl (cI, 380, .inl (zsm S (zDS S n len0 tk0 mi) k 0 0))), (hL, .inl (cI, 46, .inl (zcp S L 46)))] H := hP
          have hD : va_D AA [(hE, .inl (cI, 7, .inl E)), (hN9, .inl (cI, 128, .inl NM)), (hp, .inl (cI, 64, .inl PI)), (h, .inr (6, fs)), (hs, .inl (cI, 380, .inl (zsm S (zDS S n len0 tk0 mi) k 0 0))), (hL, .inl (cI, 46, .inl (zcp S L 46)))] := hD
          refine lv_iconst (v := nI 0) hx hb dX6_then_38 (by decide) ?_
          refine lv_istore (lv' := [(4, .int (nI 0)), (0, .ref h), (1, .int (nI v9)), (2, .int (nI j)), (3, .int (nI 1))]) hx hb dX6_then_39 hl (by decide) rfl (fun ls hl => ?_)
          have L_41 : ∀ (fu i : Nat) (NMv : Nat → Int32) (PIv : Nat → Int32) (hi : i ≤ v9) (hn : v9 + 1 ≤ i + fu) , ∀ (ls : Array Slot), lv_has ls 5 [(0, .ref h), (1, .int (nI v9)), (2, .int (nI j)), (3, .int (nI 1)), (4, .int (nI i))] → ∀ (H : Heap) (locs : List Loc), va_P D vwCl [(h, .inr (6, fs)), (hs, .inl (cI, 380, .inl (zsm S (zDS S n len0 tk0 mi) k 0 i))), (hE, .inl (cI, 7, .inl E)), (hN9, .inl (cI, 128, .inl NMv)), (hp, .inl (cI, 64, .inl PIv)), (hL, .inl (cI, 46, .inl (zcp S L 46)))] H → va_D AA [(h, .inr (6, fs)), (hs, .inl (cI, 380, .inl (zsm S (zDS S n len0 tk0 mi) k 0 i))), (hE, .inl (cI, 7, .inl E)), (hN9, .inl (cI, 128, .inl NMv)), (hp, .inl (cI, 64, .inl PIv)), (hL, .inl (cI, 46, .inl (zcp S L 46)))] → va_S AA s.heap H locs → W pg l ev ({ frames := 6, cells := 0, slots := 0, locals := 141 } : Room) s mt args below meth cd H locs 0 0 QQ (F0 mt 41 ls []) := by
            intro fu
            induction fu with
            | zero =>
              intro i NMv PIv hi hn
              exact absurd hn (by omega)
            | succ fu ih_41 =>
              intro i NMv PIv hi hn  ls hl H locs hP hD hS
              refine lv_iload hx hb dX6_then_41 (lv_at hl 4 rfl) ?_
              refine lv_iload_n hx hb dX6_then_43 rfl (lv_at hl 1 rfl) ?_
              refine lv_icmp_ge (tgt := 57) hx hb dX6_then_44 (by decide) (fun c44_21 => ?_) (fun c44_21 => ?_)
              · have c44_21 : v9 ≤ i := (nI_leI (a := v9) (b := i) (by omega) (by omega)).mp c44_21
                refine lv_aload_n hx hb dX6_then_57 rfl (lv_at hl 0 rfl) ?_
                refine lv_iload_n hx hb dX6_then_58 rfl (lv_at hl 2 rfl) ?_
                refine lv_iconst (v := nI 2) hx hb dX6_then_59 (by decide) ?_
                refine lv_iload_n hx hb dX6_then_60 rfl (lv_at hl 3 rfl) ?_
                refine lv_iadd hx hb dX6_then_61 ?_
                refine zrw (nI_add _ _) ?_
                refine zcsE (va_runV (As := [.int (nI j), .int (nI 3)]) (rest := []) ⟨hx, hb, hml, hown, hts⟩ (c_X6_its l D cI cJ h hs fs (zsm S (zDS S n len0 tk0 mi) k 0 i) j 3 (by first | rfl | assumption | omega) (by omega) H.size) (cwV 2 hts gX6_then_X6_its rfl rfl rfl (by decide +kernel) ⟨Nat.le_of_ble_eq_true rfl, Nat.le_of_ble_eq_true rfl⟩) (zpV hK hN hZ hP hD hS hA [0, 1] rfl (by decide) 0 rfl rfl rfl) rfl rfl hl.1 rfl (lv_room (Nat.le_of_ble_eq_true rfl)) dX6_then_62 ⟨Nat.zero_le _, Nat.zero_le _⟩) ?_
                refine lv_istore (lv' := [(4, .int ((zsm S (zDS S n len0 tk0 mi) k 0 i) (8 + 4 * j + 3))), (0, .ref h), (1, .int (nI v9)), (2, .int (nI j)), (3, .int (nI 1))]) hx hb dX6_then_65 hl (by decide) rfl (fun ls hl => ?_)
                refine lv_aload_n hx hb dX6_then_67 rfl (lv_at hl 1 rfl) ?_
                refine zcv (wr := [(hE, .inl (cI, 7, .inl E)), (hN9, .inl (cI, 128, .inl NMv)), (hp, .inl (cI, 64, .inl PIv))]) (va_runV (As := []) (rest := []) ⟨hx, hb, hml, hown, hts⟩ (c_X6_layBack l D cI cJ h hs hL fs (zsm S (zDS S n len0 tk0 mi) k 0 i) (zcp S L 46) (by first | rfl | assumption | omega) (by first | rfl | assumption | omega) H.size) (cwV 0 hts gX6_then_X6_layBack rfl rfl rfl (by decide +kernel) ⟨Nat.le_of_ble_eq_true rfl, Nat.le_of_ble_eq_true rfl⟩) (zpV hK hN hZ hP hD hS hA [0, 1, 5] rfl (by decide) 0 rfl rfl rfl) rfl rfl hl.1 rfl (lv_room (Nat.le_of_ble_eq_true rfl)) dX6_then_68 ⟨Nat.zero_le _, Nat.zero_le _⟩) hP hD hS hA [0, 1, 5] [2, 3, 4] rfl rfl (by decide) (by decide) (fun w_23 H locs h_22 hP hD hS => ?_)
                obtain rfl := h_22
                have hP : va_P D vwCl [(hE, .inl (cI, 7, .inl E)), (hN9, .inl (cI, 128, .inl NMv)), (hp, .inl (cI, 64, .inl PIv)), (h, .inr (6, fs)), (hs, .inl (cI, 380, .inl (zcp (zcp S L 46) (zsm S (zDS S n len0 tk0 mi) k 0 i) 46))), (hL, .inl (cI, 46, .inl ((zcp S L 46))))] H := hP
                have hD : va_D AA [(hE, .inl (cI, 7, .inl E)), (hN9, .inl (cI, 128, .inl NMv)), (hp, .inl (cI, 64, .inl PIv)), (h, .inr (6, fs)), (hs, .inl (cI, 380, .inl (zcp (zcp S L 46) (zsm S (zDS S n len0 tk0 mi) k 0 i) 46))), (hL, .inl (cI, 46, .inl ((zcp S L 46))))] := hD
                have hP := zPx (i := 4) (g := S) hP rfl (fun j _ => congrFun (zback hkle) j)
                have hD := zDx (i := 4) (g := S) hD rfl
                have hP : va_P D vwCl [(hE, .inl (cI, 7, .inl E)), (hN9, .inl (cI, 128, .inl NMv)), (hp, .inl (cI, 64, .inl PIv)), (h, .inr (6, fs)), (hs, .inl (cI, 380, .inl S)), (hL, .inl (cI, 46, .inl ((zcp S L 46))))] H := hP
                have hD : va_D AA [(hE, .inl (cI, 7, .inl E)), (hN9, .inl (cI, 128, .inl NMv)), (hp, .inl (cI, 64, .inl PIv)), (h, .inr (6, fs)), (hs, .inl (cI, 380, .inl S)), (hL, .inl (cI, 46, .inl ((zcp S L 46))))] := hD
                refine lv_iload hx hb dX6_then_71 (lv_at hl 0 rfl) ?_
                have hP := hP.sub (ws' := [(h, .inr (6, fs)), (hs, .inl (cI, 380, .inl S)), (hE, .inl (cI, 7, .inl E)), (hN9, .inl (cI, 128, .inl NMv)), (hp, .inl (cI, 64, .inl PIv)), (hL, .inl (cI, 46, .inl ((zcp S L 46))))]) [3, 4, 0, 1, 2, 5] rfl
                have hD := hD.sub (ws' := [(h, .inr (6, fs)), (hs, .inl (cI, 380, .inl S)), (hE, .inl (cI, 7, .inl E)), (hN9, .inl (cI, 128, .inl NMv)), (hp, .inl (cI, 64, .inl PIv)), (hL, .inl (cI, 46, .inl ((zcp S L 46))))]) [3, 4, 0, 1, 2, 5] (by decide) rfl
                exact hret hP hD hS dX6_then_73 rfl (by rw [show zo_then S E k (zDS S n len0 tk0 mi) (nI v9) (nI j) (nI 1) = (zGm (zDS S n len0 tk0 mi) k 0 v9 j, S, E) from by rw [zo_then, if_pos ⟨by assumption, by assumption, by decide⟩, if_neg (by decide), nI_clamp (show v9 < 2147483648 by omega), nI_clamp (show j < 2147483648 by omega)]]; exact ⟨_, _, _, by rw [show i = v9 from by omega]; exact zsm_G (by omega), rfl⟩)
              · have c44_21 : ¬ (v9 ≤ i) := fun h9 => c44_21 ((nI_leI (a := v9) (b := i) (by omega) (by omega)).mpr h9)
                refine lv_aload_n hx hb dX6_then_47 rfl (lv_at hl 0 rfl) ?_
                refine zcv (wr := [(hE, .inl (cI, 7, .inl E)), (hL, .inl (cI, 46, .inl (zcp S L 46)))]) (va_runV (As := []) (rest := []) ⟨hx, hb, hml, hown, hts⟩ (c_X6_minute l D cI cJ h hs hN9 hp fs S NMv PIv n len0 tk0 k mi i (by first | rfl | assumption | omega) (by first | rfl | assumption | omega) (by first | rfl | assumption | omega) htx0 (by first | rfl | assumption | omega) (by first | rfl | assumption | omega) (by first | rfl | assumption | omega) (by omega) H.size) (cwV 0 hts gX6_then_X6_minute rfl rfl rfl (by decide +kernel) ⟨Nat.le_of_ble_eq_true rfl, Nat.le_of_ble_eq_true rfl⟩) (zpV hK hN hZ hP hD hS hA [0, 1, 3, 4] rfl (by decide) 0 rfl rfl rfl) rfl rfl hl.1 rfl (lv_room (Nat.le_of_ble_eq_true rfl)) dX6_then_48 ⟨Nat.zero_le _, Nat.zero_le _⟩) hP hD hS hA [0, 1, 3, 4] [2, 5] rfl rfl (by decide) (by decide) (fun w_25 H locs h_24 hP hD hS => ?_)
                obtain ⟨NM9_26, PI9_27, rfl⟩ := h_24
                have hP : va_P D vwCl [(hE, .inl (cI, 7, .inl E)), (hL, .inl (cI, 46, .inl (zcp S L 46))), (h, .inr (6, fs)), (hs, .inl (cI, 380, .inl (zsm S (zDS S n len0 tk0 mi) k 0 (i + 1)))), (hN9, .inl (cI, 128, .inl NM9_26)), (hp, .inl (cI, 64, .inl PI9_27))] H := hP
                have hD : va_D AA [(hE, .inl (cI, 7, .inl E)), (hL, .inl (cI, 46, .inl (zcp S L 46))), (h, .inr (6, fs)), (hs, .inl (cI, 380, .inl (zsm S (zDS S n len0 tk0 mi) k 0 (i + 1)))), (hN9, .inl (cI, 128, .inl NM9_26)), (hp, .inl (cI, 64, .inl PI9_27))] := hD
                refine lv_iinc (v := nI (i + 1)) (lv' := [(4, .int (nI (i + 1))), (0, .ref h), (1, .int (nI v9)), (2, .int (nI j)), (3, .int (nI 1))]) hx hb dX6_then_51 hl (k := 4) rfl (nI_add _ _) (by decide) rfl (fun ls hl => ?_)
                refine lv_goto (tgt := 41) hx hb dX6_then_54 (by decide) ?_
                exact ih_41  (i + 1) NM9_26 PI9_27 (by omega) (by omega)  ls (lv_sub hl [1, 2, 3, 4, 0] rfl) H locs (hP.sub [2, 3, 0, 4, 5, 1] rfl) (hD.sub [2, 3, 0, 4, 5, 1] (by decide) rfl) hS
          exact L_41 (v9 + 1) 0 NM PI (by omega) (by omega)  ls (lv_sub hl [1, 2, 3, 4, 0] rfl) _ _ (hP.sub [3, 4, 0, 1, 2, 5] rfl) (hD.sub [3, 4, 0, 1, 2, 5] (by decide) rfl) hS
      · have c25_9 := bI_0.mp c25_9
        refine lv_aload_n hx hb dX6_then_28 rfl (lv_at hl 0 rfl) ?_
        refine lv_iconst (v := nI 1) hx hb dX6_then_29 (by decide) ?_
        refine zci (wr := [(hs, .inl (cI, 380, .inl S)), (hN9, .inl (cI, 128, .inl NM)), (hp, .inl (cI, 64, .inl PI)), (hL, .inl (cI, 46, .inl L))]) (va_runV (As := [.int (nI 1)]) (rest := []) ⟨hx, hb, hml, hown, hts⟩ (c_X6_error l D cI cJ h hE fs E 1 (by first | rfl | assumption | omega) (by first | rfl | assumption | omega) s.heap.size) (cwV 1 hts gX6_then_X6_error rfl rfl rfl (by decide +kernel) ⟨Nat.le_of_ble_eq_true rfl, Nat.le_of_ble_eq_true rfl⟩) (zpV hK hN hZ hP hD hS hA [0, 2] rfl (by decide) 0 rfl rfl rfl) rfl rfl hl.1 rfl (lv_room (Nat.le_of_ble_eq_true rfl)) dX6_then_30 ⟨Nat.zero_le _, Nat.zero_le _⟩) hP hD hS hA [0, 2] [1, 3, 4, 5] rfl rfl (by decide) (by decide) (fun r_30 w_29 H locs h_28 hP hD hS => ?_)
        obtain ⟨rfl, rfl⟩ := h_28
        have hP : va_P D vwCl [(hs, .inl (cI, 380, .inl S)), (hN9, .inl (cI, 128, .inl NM)), (hp, .inl (cI, 64, .inl PI)), (hL, .inl (cI, 46, .inl L)), (h, .inr (6, fs)), (hE, .inl (cI, 7, .inl (upd E 1 (E 1 + nI 1))))] H := hP
        have hD : va_D AA [(hs, .inl (cI, 380, .inl S)), (hN9, .inl (cI, 128, .inl NM)), (hp, .inl (cI, 64, .inl PI)), (hL, .inl (cI, 46, .inl L)), (h, .inr (6, fs)), (hE, .inl (cI, 7, .inl (upd E 1 (E 1 + nI 1))))] := hD
        have hP := hP.sub (ws' := [(h, .inr (6, fs)), (hs, .inl (cI, 380, .inl S)), (hE, .inl (cI, 7, .inl (upd E 1 (E 1 + nI 1)))), (hN9, .inl (cI, 128, .inl NM)), (hp, .inl (cI, 64, .inl PI)), (hL, .inl (cI, 46, .inl L))]) [4, 0, 5, 1, 2, 3] rfl
        have hD := hD.sub (ws' := [(h, .inr (6, fs)), (hs, .inl (cI, 380, .inl S)), (hE, .inl (cI, 7, .inl (upd E 1 (E 1 + nI 1)))), (hN9, .inl (cI, 128, .inl NM)), (hp, .inl (cI, 64, .inl PI)), (hL, .inl (cI, 46, .inl L))]) [4, 0, 5, 1, 2, 3] (by decide) rfl
        exact hret hP hD hS dX6_then_33 rfl (by rw [show zo_then S E k (zDS S n len0 tk0 mi) (nI v9) (nI j) what = zerrE 1 S E from if_neg (by intro h9; first | exact absurd h9.1 (by assumption) | exact absurd h9.2.1 (by assumption) | exact absurd h9.2.2 (by assumption))]; exact ⟨_, _, _, rfl, rfl⟩)
set_option maxHeartbeats 4000000 in
set_option maxRecDepth 100000 in
theorem c_X6_meets (l : Launch) (D : va_G) (cI cJ : ClassId) (h : Nat) (hs : Nat) (fs : List Value) (S : Nat → Int32) (n : Nat) (k : Nat) (hN9 : Nat) (hp : Nat) (hL : Nat) (NM : Nat → Int32) (PI : Nat → Int32) (L : Nat → Int32) (len0 : Nat) (tk0 : zTk) (mi : Nat) (c1 : Nat) (c2 : Nat) (most : Nat) (hf0 : fs[0]? = some (.ref hs)) (hn1 : S 1 = nI n) (hk6 : S 6 = nI k) (hn4 : 4 ≤ n) (hn14 : n ≤ 14) (hkle : k ≤ 6) (hf10 : fs[10]? = some (.ref hN9)) (hf11 : fs[11]? = some (.ref hp)) (hf2 : fs[2]? = some (.ref hL)) (htx0 : zTX S 0 len0 tk0) (hmi : S 0 = nI mi) (hok : zOK (zDS S n len0 tk0 mi) k) (h1k : c1 < k) (h2k : c2 < k) (hmost : most ≤ 500) : zMi l yX6_meets wsX6_meets ({ frames := 6, cells := 0, slots := 0, locals := 141 } : Room) D [(cI, .int), (cJ, .array .int)] [.ref h, .int (nI c1), .int (nI c2), .int (nI most)] [(h, .inr (6, fs)), (hs, .inl (cI, 380, .inl S)), (hN9, .inl (cI, 128, .inl NM)), (hp, .inl (cI, 64, .inl PI)), (hL, .inl (cI, 46, .inl L))] (fun r w => ∃ NM9 PI9 L9 : Nat → Int32, r = zmt (zDS S n len0 tk0 mi) k c1 c2 most ∧ w = [(h, .inr (6, fs)), (hs, .inl (cI, 380, .inl S)), (hN9, .inl (cI, 128, .inl NM9)), (hp, .inl (cI, 64, .inl PI9)), (hL, .inl (cI, 46, .inl L9))]) := by
  refine zMi.start (cc := cX6_meets) (maxL := 5) (rt := .int) (by first | decide | decide +kernel) rfl (Nat.le_of_ble_eq_true rfl) ?_
  intro pg ev s mt args below meth cd ls AA QQ ⟨hx, hb, hml, hr, hlocks, hown, hts, hK, hN, hZ, hP, hD, hA, hS, hl⟩ hret
  have hown : s.vm.findClass RX6 = some mt.cls := hown
  have hl : lv_has ls 5 [(0, .ref h), (1, .int (nI c1)), (2, .int (nI c2)), (3, .int (nI most))] := hl
  have hin6 : ∀ w ∈ wsX60, w ∈ wsX6_meets := fun w h => List.mem_cons_of_mem _ (List.mem_append_right _ (h))
  refine lv_aload_n hx hb dX6_meets_0 rfl (lv_at hl 0 rfl) ?_
  refine zcv (wr := [(hN9, .inl (cI, 128, .inl NM)), (hp, .inl (cI, 64, .inl PI))]) (va_runV (As := []) (rest := []) ⟨hx, hb, hml, hown, hts⟩ (c_X6_layDown l D cI cJ h hs hL fs S L (by first | rfl | assumption | omega) (by first | rfl | assumption | omega) s.heap.size) (cwV 0 hts gX6_meets_X6_layDown rfl rfl rfl (by decide +kernel) ⟨Nat.le_of_ble_eq_true rfl, Nat.le_of_ble_eq_true rfl⟩) (zpV hK hN hZ hP hD hS hA [0, 1, 4] rfl (by decide) 0 rfl rfl rfl) rfl rfl hl.1 rfl (lv_room (Nat.le_of_ble_eq_true rfl)) dX6_meets_1 ⟨Nat.zero_le _, Nat.zero_le _⟩) hP hD hS hA [0, 1, 4] [2, 3] rfl rfl (by decide) (by decide) (fun w_2 H locs h_1 hP hD hS => ?_)
  obtain rfl := h_1
  have hP : va_P D vwCl [(hN9, .inl (cI, 128, .inl NM)), (hp, .inl (cI, 64, .inl PI)), (h, .inr (6, fs)), (hs, .inl (cI, 380, .inl S)), (hL, .inl (cI, 46, .inl (zcp S L 46)))] H := hP
  have hD : va_D AA [(hN9, .inl (cI, 128, .inl NM)), (hp, .inl (cI, 64, .inl PI)), (h, .inr (6, fs)), (hs, .inl (cI, 380, .inl S)), (hL, .inl (cI, 46, .inl (zcp S L 46)))] := hD
  have hP := zPx (i := 3) (g := zsm S (zDS S n len0 tk0 mi) k 0 0) hP rfl (fun j _ => (congrFun (zsm_start hmi hok) j).symm)
  have hD := zDx (i := 3) (g := zsm S (zDS S n len0 tk0 mi) k 0 0) hD rfl
  have hP : va_P D vwCl [(hN9, .inl (cI, 128, .inl NM)), (hp, .inl (cI, 64, .inl PI)), (h, .inr (6, fs)), (hs, .inl (cI, 380, .inl (zsm S (zDS S n len0 tk0 mi) k 0 0))), (hL, .inl (cI, 46, .inl (zcp S L 46)))] H := hP
  have hD : va_D AA [(hN9, .inl (cI, 128, .inl NM)), (hp, .inl (cI, 64, .inl PI)), (h, .inr (6, fs)), (hs, .inl (cI, 380, .inl (zsm S (zDS S n len0 tk0 mi) k 0 0))), (hL, .inl (cI, 46, .inl (zcp S L 46)))] := hD
  refine lv_iconst (v := nI 0) hx hb dX6_meets_4 (by decide) ?_
  refine lv_istore (lv' := [(4, .int (nI 0)), (0, .ref h), (1, .int (nI c1)), (2, .int (nI c2)), (3, .int (nI most))]) hx hb dX6_meets_5 hl (by decide) rfl (fun ls hl => ?_)
  have L_7 : ∀ (fu i : Nat) (NMv : Nat → Int32) (PIv : Nat → Int32) (hi : i ≤ (most + 1)) (hn : (most + 1) + 1 ≤ i + fu) (hz : zfind (zPmeet (zDS S n len0 tk0 mi) k c1 c2) (most + 1 - i) i = zfind (zPmeet (zDS S n len0 tk0 mi) k c1 c2) (most + 1) 0), ∀ (ls : Array Slot), lv_has ls 5 [(0, .ref h), (1, .int (nI c1)), (2, .int (nI c2)), (3, .int (nI most)), (4, .int (nI i))] → ∀ (H : Heap) (locs : List Loc), va_P D vwCl [(h, .inr (6, fs)), (hs, .inl (cI, 380, .inl (zsm S (zDS S n len0 tk0 mi) k 0 i))), (hN9, .inl (cI, 128, .inl NMv)), (hp, .inl (cI, 64, .inl PIv)), (hL, .inl (cI, 46, .inl (zcp S L 46)))] H → va_D AA [(h, .inr (6, fs)), (hs, .inl (cI, 380, .inl (zsm S (zDS S n len0 tk0 mi) k 0 i))), (hN9, .inl (cI, 128, .inl NMv)), (hp, .inl (cI, 64, .inl PIv)), (hL, .inl (cI, 46, .inl (zcp S L 46)))] → va_S AA s.heap H locs → W pg l ev ({ frames := 6, cells := 0, slots := 0, locals := 141 } : Room) s mt args below meth cd H locs 0 0 QQ (F0 mt 7 ls []) := by
    intro fu
    induction fu with
    | zero =>
      intro i NMv PIv hi hn
      exact absurd hn (by omega)
    | succ fu ih_7 =>
      intro i NMv PIv hi hn hz ls hl H locs hP hD hS
      refine lv_iload hx hb dX6_meets_7 (lv_at hl 4 rfl) ?_
      refine lv_iload_n hx hb dX6_meets_9 rfl (lv_at hl 3 rfl) ?_
      refine lv_icmp_gt (tgt := 38) hx hb dX6_meets_10 (by decide) (fun c10_3 => ?_) (fun c10_3 => ?_)
      · have c10_3 : most < i := (nI_ltI (a := most) (b := i) (by omega) (by omega)).mp c10_3
        refine lv_aload_n hx hb dX6_meets_38 rfl (lv_at hl 0 rfl) ?_
        refine zcv (wr := [(hN9, .inl (cI, 128, .inl NMv)), (hp, .inl (cI, 64, .inl PIv))]) (va_runV (As := []) (rest := []) ⟨hx, hb, hml, hown, hts⟩ (c_X6_layBack l D cI cJ h hs hL fs (zsm S (zDS S n len0 tk0 mi) k 0 i) (zcp S L 46) (by first | rfl | assumption | omega) (by first | rfl | assumption | omega) H.size) (cwV 0 hts gX6_meets_X6_layBack rfl rfl rfl (by decide +kernel) ⟨Nat.le_of_ble_eq_true rfl, Nat.le_of_ble_eq_true rfl⟩) (zpV hK hN hZ hP hD hS hA [0, 1, 4] rfl (by decide) 0 rfl rfl rfl) rfl rfl hl.1 rfl (lv_room (Nat.le_of_ble_eq_true rfl)) dX6_meets_39 ⟨Nat.zero_le _, Nat.zero_le _⟩) hP hD hS hA [0, 1, 4] [2, 3] rfl rfl (by decide) (by decide) (fun w_5 H locs h_4 hP hD hS => ?_)
        obtain rfl := h_4
        have hP : va_P D vwCl [(hN9, .inl (cI, 128, .inl NMv)), (hp, .inl (cI, 64, .inl PIv)), (h, .inr (6, fs)), (hs, .inl (cI, 380, .inl (zcp (zcp S L 46) (zsm S (zDS S n len0 tk0 mi) k 0 i) 46))), (hL, .inl (cI, 46, .inl ((zcp S L 46))))] H := hP
        have hD : va_D AA [(hN9, .inl (cI, 128, .inl NMv)), (hp, .inl (cI, 64, .inl PIv)), (h, .inr (6, fs)), (hs, .inl (cI, 380, .inl (zcp (zcp S L 46) (zsm S (zDS S n len0 tk0 mi) k 0 i) 46))), (hL, .inl (cI, 46, .inl ((zcp S L 46))))] := hD
        have hP := zPx (i := 3) (g := S) hP rfl (fun j _ => congrFun (zback hkle) j)
        have hD := zDx (i := 3) (g := S) hD rfl
        have hP : va_P D vwCl [(hN9, .inl (cI, 128, .inl NMv)), (hp, .inl (cI, 64, .inl PIv)), (h, .inr (6, fs)), (hs, .inl (cI, 380, .inl S)), (hL, .inl (cI, 46, .inl ((zcp S L 46))))] H := hP
        have hD : va_D AA [(hN9, .inl (cI, 128, .inl NMv)), (hp, .inl (cI, 64, .inl PIv)), (h, .inr (6, fs)), (hs, .inl (cI, 380, .inl S)), (hL, .inl (cI, 46, .inl ((zcp S L 46))))] := hD
        refine lv_iload hx hb dX6_meets_42 (lv_at hl 4 rfl) ?_
        refine lv_iload_n hx hb dX6_meets_44 rfl (lv_at hl 3 rfl) ?_
        refine lv_icmp_gt (tgt := 53) hx hb dX6_meets_45 (by decide) (fun c45_6 => ?_) (fun c45_6 => ?_)
        · have c45_6 : most < i := (nI_ltI (a := most) (b := i) (by omega) (by omega)).mp c45_6
          refine lv_iconst (v := (-1)) hx hb dX6_meets_53 (by decide) ?_
          have hP := hP.sub (ws' := [(h, .inr (6, fs)), (hs, .inl (cI, 380, .inl S)), (hN9, .inl (cI, 128, .inl NMv)), (hp, .inl (cI, 64, .inl PIv)), (hL, .inl (cI, 46, .inl ((zcp S L 46))))]) [2, 3, 0, 1, 4] rfl
          have hD := hD.sub (ws' := [(h, .inr (6, fs)), (hs, .inl (cI, 380, .inl S)), (hN9, .inl (cI, 128, .inl NMv)), (hp, .inl (cI, 64, .inl PIv)), (hL, .inl (cI, 46, .inl ((zcp S L 46))))]) [2, 3, 0, 1, 4] (by decide) rfl
          exact hret hP hD hS dX6_meets_54 rfl (by (have hf : zfind (zPmeet (zDS S n len0 tk0 mi) k c1 c2) (most + 1) 0 = i := by rw [← hz]; exact (by rw [show most + 1 - i = 0 by omega]; rfl)); exact ⟨_, _, _, by rw [zmt, hf, if_neg (by omega)], rfl⟩)
        · have c45_6 : ¬ (most < i) := fun h9 => c45_6 ((nI_ltI (a := most) (b := i) (by omega) (by omega)).mpr h9)
          exact absurd c45_6 (by omega)
      · have c10_3 : ¬ (most < i) := fun h9 => c10_3 ((nI_ltI (a := most) (b := i) (by omega) (by omega)).mpr h9)
        refine lv_aload_n hx hb dX6_meets_13 rfl (lv_at hl 0 rfl) ?_
        refine lv_iload_n hx hb dX6_meets_14 rfl (lv_at hl 1 rfl) ?_
        refine lv_iconst (v := nI 2) hx hb dX6_meets_15 (by decide) ?_
        refine zcsE (va_runV (As := [.int (nI c1), .int (nI 2)]) (rest := []) ⟨hx, hb, hml, hown, hts⟩ (c_X6_its l D cI cJ h hs fs (zsm S (zDS S n len0 tk0 mi) k 0 i) c1 2 (by first | rfl | assumption | omega) (by first | rfl | assumption | omega) H.size) (cwV 2 hts gX6_meets_X6_its rfl rfl rfl (by decide +kernel) ⟨Nat.le_of_ble_eq_true rfl, Nat.le_of_ble_eq_true rfl⟩) (zpV hK hN hZ hP hD hS hA [0, 1] rfl (by decide) 0 rfl rfl rfl) rfl rfl hl.1 rfl (lv_room (Nat.le_of_ble_eq_true rfl)) dX6_meets_16 ⟨Nat.zero_le _, Nat.zero_le _⟩) ?_
        refine zrw (zsm_P (by omega)) ?_
        refine lv_aload_n hx hb dX6_meets_19 rfl (lv_at hl 0 rfl) ?_
        refine lv_iload_n hx hb dX6_meets_20 rfl (lv_at hl 2 rfl) ?_
        refine lv_iconst (v := nI 2) hx hb dX6_meets_21 (by decide) ?_
        refine zcsE (va_runV (As := [.int (nI c2), .int (nI 2)]) (rest := [.int (zPm (zDS S n len0 tk0 mi) k 0 i c1)]) ⟨hx, hb, hml, hown, hts⟩ (c_X6_its l D cI cJ h hs fs (zsm S (zDS S n len0 tk0 mi) k 0 i) c2 2 (by first | rfl | assumption | omega) (by first | rfl | assumption | omega) H.size) (cwV 2 hts gX6_meets_X6_its rfl rfl rfl (by decide +kernel) ⟨Nat.le_of_ble_eq_true rfl, Nat.le_of_ble_eq_true rfl⟩) (zpV hK hN hZ hP hD hS hA [0, 1] rfl (by decide) 0 rfl rfl rfl) rfl rfl hl.1 rfl (lv_room (Nat.le_of_ble_eq_true rfl)) dX6_meets_22 ⟨Nat.zero_le _, Nat.zero_le _⟩) ?_
        refine zrw (zsm_P (by omega)) ?_
        refine lv_icmp_eq (tgt := 38) hx hb dX6_meets_25 (by decide) (fun c25_7 => ?_) (fun c25_7 => ?_)
        · refine lv_aload_n hx hb dX6_meets_38 rfl (lv_at hl 0 rfl) ?_
          refine zcv (wr := [(hN9, .inl (cI, 128, .inl NMv)), (hp, .inl (cI, 64, .inl PIv))]) (va_runV (As := []) (rest := []) ⟨hx, hb, hml, hown, hts⟩ (c_X6_layBack l D cI cJ h hs hL fs (zsm S (zDS S n len0 tk0 mi) k 0 i) (zcp S L 46) (by first | rfl | assumption | omega) (by first | rfl | assumption | omega) H.size) (cwV 0 hts gX6_meets_X6_layBack rfl rfl rfl (by decide +kernel) ⟨Nat.le_of_ble_eq_true rfl, Nat.le_of_ble_eq_true rfl⟩) (zpV hK hN hZ hP hD hS hA [0, 1, 4] rfl (by decide) 0 rfl rfl rfl) rfl rfl hl.1 rfl (lv_room (Nat.le_of_ble_eq_true rfl)) dX6_meets_39 ⟨Nat.zero_le _, Nat.zero_le _⟩) hP hD hS hA [0, 1, 4] [2, 3] rfl rfl (by decide) (by decide) (fun w_9 H locs h_8 hP hD hS => ?_)
          obtain rfl := h_8
          have hP : va_P D vwCl [(hN9, .inl (cI, 128, .inl NMv)), (hp, .inl (cI, 64, .inl PIv)), (h, .inr (6, fs)), (hs, .inl (cI, 380, .inl (zcp (zcp S L 46) (zsm S (zDS S n len0 tk0 mi) k 0 i) 46))), (hL, .inl (cI, 46, .inl ((zcp S L 46))))] H := hP
          have hD : va_D AA [(hN9, .inl (cI, 128, .inl NMv)), (hp, .inl (cI, 64, .inl PIv)), (h, .inr (6, fs)), (hs, .inl (cI, 380, .inl (zcp (zcp S L 46) (zsm S (zDS S n len0 tk0 mi) k 0 i) 46))), (hL, .inl (cI, 46, .inl ((zcp S L 46))))] := hD
          have hP := zPx (i := 3) (g := S) hP rfl (fun j _ => congrFun (zback hkle) j)
          have hD := zDx (i := 3) (g := S) hD rfl
          have hP : va_P D vwCl [(hN9, .inl (cI, 128, .inl NMv)), (hp, .inl (cI, 64, .inl PIv)), (h, .inr (6, fs)), (hs, .inl (cI, 380, .inl S)), (hL, .inl (cI, 46, .inl ((zcp S L 46))))] H := hP
          have hD : va_D AA [(hN9, .inl (cI, 128, .inl NMv)), (hp, .inl (cI, 64, .inl PIv)), (h, .inr (6, fs)), (hs, .inl (cI, 380, .inl S)), (hL, .inl (cI, 46, .inl ((zcp S L 46))))] := hD
          refine lv_iload hx hb dX6_meets_42 (lv_at hl 4 rfl) ?_
          refine lv_iload_n hx hb dX6_meets_44 rfl (lv_at hl 3 rfl) ?_
          refine lv_icmp_gt (tgt := 53) hx hb dX6_meets_45 (by decide) (fun c45_10 => ?_) (fun c45_10 => ?_)
          · have c45_10 : most < i := (nI_ltI (a := most) (b := i) (by omega) (by omega)).mp c45_10
            exact absurd c45_10 (by omega)
          · have c45_10 : ¬ (most < i) := fun h9 => c45_10 ((nI_ltI (a := most) (b := i) (by omega) (by omega)).mpr h9)
            refine lv_iload hx hb dX6_meets_48 (lv_at hl 4 rfl) ?_
            refine lv_goto (tgt := 54) hx hb dX6_meets_50 (by decide) ?_
            have hP := hP.sub (ws' := [(h, .inr (6, fs)), (hs, .inl (cI, 380, .inl S)), (hN9, .inl (cI, 128, .inl NMv)), (hp, .inl (cI, 64, .inl PIv)), (hL, .inl (cI, 46, .inl ((zcp S L 46))))]) [2, 3, 0, 1, 4] rfl
            have hD := hD.sub (ws' := [(h, .inr (6, fs)), (hs, .inl (cI, 380, .inl S)), (hN9, .inl (cI, 128, .inl NMv)), (hp, .inl (cI, 64, .inl PIv)), (hL, .inl (cI, 46, .inl ((zcp S L 46))))]) [2, 3, 0, 1, 4] (by decide) rfl
            exact hret hP hD hS dX6_meets_54 rfl (by (have hf : zfind (zPmeet (zDS S n len0 tk0 mi) k c1 c2) (most + 1) 0 = i := by rw [← hz]; rw [show most + 1 - i = (most - i) + 1 by omega]; exact zfind_p (by assumption)); exact ⟨_, _, _, by rw [zmt, hf, if_pos (by omega)], rfl⟩)
        · refine lv_aload_n hx hb dX6_meets_28 rfl (lv_at hl 0 rfl) ?_
          refine zcv (wr := [(hL, .inl (cI, 46, .inl (zcp S L 46)))]) (va_runV (As := []) (rest := []) ⟨hx, hb, hml, hown, hts⟩ (c_X6_minute l D cI cJ h hs hN9 hp fs S NMv PIv n len0 tk0 k mi i (by first | rfl | assumption | omega) (by first | rfl | assumption | omega) (by first | rfl | assumption | omega) htx0 (by first | rfl | assumption | omega) (by first | rfl | assumption | omega) (by first | rfl | assumption | omega) (by omega) H.size) (cwV 0 hts gX6_meets_X6_minute rfl rfl rfl (by decide +kernel) ⟨Nat.le_of_ble_eq_true rfl, Nat.le_of_ble_eq_true rfl⟩) (zpV hK hN hZ hP hD hS hA [0, 1, 2, 3] rfl (by decide) 0 rfl rfl rfl) rfl rfl hl.1 rfl (lv_room (Nat.le_of_ble_eq_true rfl)) dX6_meets_29 ⟨Nat.zero_le _, Nat.zero_le _⟩) hP hD hS hA [0, 1, 2, 3] [4] rfl rfl (by decide) (by decide) (fun w_12 H locs h_11 hP hD hS => ?_)
          obtain ⟨NM9_13, PI9_14, rfl⟩ := h_11
          have hP : va_P D vwCl [(hL, .inl (cI, 46, .inl (zcp S L 46))), (h, .inr (6, fs)), (hs, .inl (cI, 380, .inl (zsm S (zDS S n len0 tk0 mi) k 0 (i + 1)))), (hN9, .inl (cI, 128, .inl NM9_13)), (hp, .inl (cI, 64, .inl PI9_14))] H := hP
          have hD : va_D AA [(hL, .inl (cI, 46, .inl (zcp S L 46))), (h, .inr (6, fs)), (hs, .inl (cI, 380, .inl (zsm S (zDS S n len0 tk0 mi) k 0 (i + 1)))), (hN9, .inl (cI, 128, .inl NM9_13)), (hp, .inl (cI, 64, .inl PI9_14))] := hD
          refine lv_iinc (v := nI (i + 1)) (lv' := [(4, .int (nI (i + 1))), (0, .ref h), (1, .int (nI c1)), (2, .int (nI c2)), (3, .int (nI most))]) hx hb dX6_meets_32 hl (k := 4) rfl (nI_add _ _) (by decide) rfl (fun ls hl => ?_)
          refine lv_goto (tgt := 7) hx hb dX6_meets_35 (by decide) ?_
          exact ih_7  (i + 1) NM9_13 PI9_14 (by omega) (by omega) (by rw [← hz, show most + 1 - i = (most + 1 - (i + 1)) + 1 by omega]; exact (zfind_n (by assumption)).symm) ls (lv_sub hl [1, 2, 3, 4, 0] rfl) H locs (hP.sub [1, 2, 3, 4, 0] rfl) (hD.sub [1, 2, 3, 4, 0] (by decide) rfl) hS
  exact L_7 ((most + 1) + 1) 0 NM PI (by omega) (by omega) rfl ls (lv_sub hl [1, 2, 3, 4, 0] rfl) _ _ (hP.sub [2, 3, 0, 1, 4] rfl) (hD.sub [2, 3, 0, 1, 4] (by decide) rfl) hS
set_option maxHeartbeats 4000000 in
set_option maxRecDepth 100000 in
theorem c_X6_meet (l : Launch) (D : va_G) (cI cJ : ClassId) (h : Nat) (hs : Nat) (hE : Nat) (fs : List Value) (S : Nat → Int32) (E : Nat → Int32) (n : Nat) (k : Nat) (hN9 : Nat) (hp : Nat) (hL : Nat) (NM : Nat → Int32) (PI : Nat → Int32) (L : Nat → Int32) (len0 : Nat) (tk0 : zTk) (mi : Nat) (c1 : Int32) (c2 : Int32) (hf0 : fs[0]? = some (.ref hs)) (hf4 : fs[4]? = some (.ref hE)) (hn1 : S 1 = nI n) (hk6 : S 6 = nI k) (hn4 : 4 ≤ n) (hn14 : n ≤ 14) (hkle : k ≤ 6) (hf10 : fs[10]? = some (.ref hN9)) (hf11 : fs[11]? = some (.ref hp)) (hf2 : fs[2]? = some (.ref hL)) (htx0 : zTX S 0 len0 tk0) (hmi : S 0 = nI mi) (hok : zOK (zDS S n len0 tk0 mi) k) : zMi l yX6_meet wsX6_meet ({ frames := 7, cells := 0, slots := 0, locals := 165 } : Room) D [(cI, .int), (cJ, .array .int)] [.ref h, .int c1, .int c2] [(h, .inr (6, fs)), (hs, .inl (cI, 380, .inl S)), (hE, .inl (cI, 7, .inl E)), (hN9, .inl (cI, 128, .inl NM)), (hp, .inl (cI, 64, .inl PI)), (hL, .inl (cI, 46, .inl L))] (fun r w => ∃ NM9 PI9 L9 : Nat → Int32, r = (zo_meet S E k (zDS S n len0 tk0 mi) c1 c2).1 ∧ w = [(h, .inr (6, fs)), (hs, .inl (cI, 380, .inl ((zo_meet S E k (zDS S n len0 tk0 mi) c1 c2).2.1))), (hE, .inl (cI, 7, .inl ((zo_meet S E k (zDS S n len0 tk0 mi) c1 c2).2.2))), (hN9, .inl (cI, 128, .inl NM9)), (hp, .inl (cI, 64, .inl PI9)), (hL, .inl (cI, 46, .inl L9))]) := by
  refine zMi.start (cc := cX6_meet) (maxL := 4) (rt := .int) (by first | decide | decide +kernel) rfl (Nat.le_of_ble_eq_true rfl) ?_
  intro pg ev s mt args below meth cd ls AA QQ ⟨hx, hb, hml, hr, hlocks, hown, hts, hK, hN, hZ, hP, hD, hA, hS, hl⟩ hret
  have hown : s.vm.findClass RX6 = some mt.cls := hown
  have hl : lv_has ls 4 [(0, .ref h), (1, .int c1), (2, .int c2)] := hl
  have hin6 : ∀ w ∈ wsX60, w ∈ wsX6_meet := fun w h => List.mem_cons_of_mem _ (List.mem_append_right _ (h))
  refine lv_aload_n hx hb dX6_meet_0 rfl (lv_at hl 0 rfl) ?_
  refine lv_iload_n hx hb dX6_meet_1 rfl (lv_at hl 1 rfl) ?_
  refine zcsE (va_runV (As := [.int c1]) (rest := []) ⟨hx, hb, hml, hown, hts⟩ (c_X6_isClimber l D cI cJ h hs fs S k c1 (by first | rfl | assumption | omega) (by first | rfl | assumption | omega) (by first | rfl | assumption | omega) s.heap.size) (cwV 1 hts gX6_meet_X6_isClimber rfl rfl rfl (by decide +kernel) ⟨Nat.le_of_ble_eq_true rfl, Nat.le_of_ble_eq_true rfl⟩) (zpV hK hN hZ hP hD hS hA [0, 1] rfl (by decide) 0 rfl rfl rfl) rfl rfl hl.1 rfl (lv_room (Nat.le_of_ble_eq_true rfl)) dX6_meet_2 ⟨Nat.zero_le _, Nat.zero_le _⟩) ?_
  refine lv_if_eq (tgt := 21) hx hb dX6_meet_5 (by decide) (fun c5_1 => ?_) (fun c5_1 => ?_)
  · have c5_1 := bI_0.mp c5_1
    refine lv_aload_n hx hb dX6_meet_21 rfl (lv_at hl 0 rfl) ?_
    refine lv_iconst (v := nI 1) hx hb dX6_meet_22 (by decide) ?_
    refine zci (wr := [(hs, .inl (cI, 380, .inl S)), (hN9, .inl (cI, 128, .inl NM)), (hp, .inl (cI, 64, .inl PI)), (hL, .inl (cI, 46, .inl L))]) (va_runV (As := [.int (nI 1)]) (rest := []) ⟨hx, hb, hml, hown, hts⟩ (c_X6_error l D cI cJ h hE fs E 1 (by first | rfl | assumption | omega) (by first | rfl | assumption | omega) s.heap.size) (cwV 1 hts gX6_meet_X6_error rfl rfl rfl (by decide +kernel) ⟨Nat.le_of_ble_eq_true rfl, Nat.le_of_ble_eq_true rfl⟩) (zpV hK hN hZ hP hD hS hA [0, 2] rfl (by decide) 0 rfl rfl rfl) rfl rfl hl.1 rfl (lv_room (Nat.le_of_ble_eq_true rfl)) dX6_meet_23 ⟨Nat.zero_le _, Nat.zero_le _⟩) hP hD hS hA [0, 2] [1, 3, 4, 5] rfl rfl (by decide) (by decide) (fun r_4 w_3 H locs h_2 hP hD hS => ?_)
    obtain ⟨rfl, rfl⟩ := h_2
    have hP : va_P D vwCl [(hs, .inl (cI, 380, .inl S)), (hN9, .inl (cI, 128, .inl NM)), (hp, .inl (cI, 64, .inl PI)), (hL, .inl (cI, 46, .inl L)), (h, .inr (6, fs)), (hE, .inl (cI, 7, .inl (upd E 1 (E 1 + nI 1))))] H := hP
    have hD : va_D AA [(hs, .inl (cI, 380, .inl S)), (hN9, .inl (cI, 128, .inl NM)), (hp, .inl (cI, 64, .inl PI)), (hL, .inl (cI, 46, .inl L)), (h, .inr (6, fs)), (hE, .inl (cI, 7, .inl (upd E 1 (E 1 + nI 1))))] := hD
    have hP := hP.sub (ws' := [(h, .inr (6, fs)), (hs, .inl (cI, 380, .inl S)), (hE, .inl (cI, 7, .inl (upd E 1 (E 1 + nI 1)))), (hN9, .inl (cI, 128, .inl NM)), (hp, .inl (cI, 64, .inl PI)), (hL, .inl (cI, 46, .inl L))]) [4, 0, 5, 1, 2, 3] rfl
    have hD := hD.sub (ws' := [(h, .inr (6, fs)), (hs, .inl (cI, 380, .inl S)), (hE, .inl (cI, 7, .inl (upd E 1 (E 1 + nI 1)))), (hN9, .inl (cI, 128, .inl NM)), (hp, .inl (cI, 64, .inl PI)), (hL, .inl (cI, 46, .inl L))]) [4, 0, 5, 1, 2, 3] (by decide) rfl
    exact hret hP hD hS dX6_meet_26 rfl (by rw [show zo_meet S E k (zDS S n len0 tk0 mi) c1 c2 = zerrE 1 S E from if_neg (by intro h9; first | exact absurd h9.1 (by assumption) | exact absurd h9.2.1 (by assumption) | exact absurd h9.2.2 (by assumption))]; exact ⟨_, _, _, rfl, rfl⟩)
  · have c5_1 := bI_n0.mp c5_1
    obtain ⟨j1, h_j1, rfl⟩ := zin_of c5_1 (by omega)
    refine lv_aload_n hx hb dX6_meet_8 rfl (lv_at hl 0 rfl) ?_
    refine lv_iload_n hx hb dX6_meet_9 rfl (lv_at hl 2 rfl) ?_
    refine zcsE (va_runV (As := [.int c2]) (rest := []) ⟨hx, hb, hml, hown, hts⟩ (c_X6_isClimber l D cI cJ h hs fs S k c2 (by first | rfl | assumption | omega) (by first | rfl | assumption | omega) (by first | rfl | assumption | omega) s.heap.size) (cwV 1 hts gX6_meet_X6_isClimber rfl rfl rfl (by decide +kernel) ⟨Nat.le_of_ble_eq_true rfl, Nat.le_of_ble_eq_true rfl⟩) (zpV hK hN hZ hP hD hS hA [0, 1] rfl (by decide) 0 rfl rfl rfl) rfl rfl hl.1 rfl (lv_room (Nat.le_of_ble_eq_true rfl)) dX6_meet_10 ⟨Nat.zero_le _, Nat.zero_le _⟩) ?_
    refine lv_if_eq (tgt := 21) hx hb dX6_meet_13 (by decide) (fun c13_5 => ?_) (fun c13_5 => ?_)
    · have c13_5 := bI_0.mp c13_5
      refine lv_aload_n hx hb dX6_meet_21 rfl (lv_at hl 0 rfl) ?_
      refine lv_iconst (v := nI 1) hx hb dX6_meet_22 (by decide) ?_
      refine zci (wr := [(hs, .inl (cI, 380, .inl S)), (hN9, .inl (cI, 128, .inl NM)), (hp, .inl (cI, 64, .inl PI)), (hL, .inl (cI, 46, .inl L))]) (va_runV (As := [.int (nI 1)]) (rest := []) ⟨hx, hb, hml, hown, hts⟩ (c_X6_error l D cI cJ h hE fs E 1 (by first | rfl | assumption | omega) (by first | rfl | assumption | omega) s.heap.size) (cwV 1 hts gX6_meet_X6_error rfl rfl rfl (by decide +kernel) ⟨Nat.le_of_ble_eq_true rfl, Nat.le_of_ble_eq_true rfl⟩) (zpV hK hN hZ hP hD hS hA [0, 2] rfl (by decide) 0 rfl rfl rfl) rfl rfl hl.1 rfl (lv_room (Nat.le_of_ble_eq_true rfl)) dX6_meet_23 ⟨Nat.zero_le _, Nat.zero_le _⟩) hP hD hS hA [0, 2] [1, 3, 4, 5] rfl rfl (by decide) (by decide) (fun r_8 w_7 H locs h_6 hP hD hS => ?_)
      obtain ⟨rfl, rfl⟩ := h_6
      have hP : va_P D vwCl [(hs, .inl (cI, 380, .inl S)), (hN9, .inl (cI, 128, .inl NM)), (hp, .inl (cI, 64, .inl PI)), (hL, .inl (cI, 46, .inl L)), (h, .inr (6, fs)), (hE, .inl (cI, 7, .inl (upd E 1 (E 1 + nI 1))))] H := hP
      have hD : va_D AA [(hs, .inl (cI, 380, .inl S)), (hN9, .inl (cI, 128, .inl NM)), (hp, .inl (cI, 64, .inl PI)), (hL, .inl (cI, 46, .inl L)), (h, .inr (6, fs)), (hE, .inl (cI, 7, .inl (upd E 1 (E 1 + nI 1))))] := hD
      have hP := hP.sub (ws' := [(h, .inr (6, fs)), (hs, .inl (cI, 380, .inl S)), (hE, .inl (cI, 7, .inl (upd E 1 (E 1 + nI 1)))), (hN9, .inl (cI, 128, .inl NM)), (hp, .inl (cI, 64, .inl PI)), (hL, .inl (cI, 46, .inl L))]) [4, 0, 5, 1, 2, 3] rfl
      have hD := hD.sub (ws' := [(h, .inr (6, fs)), (hs, .inl (cI, 380, .inl S)), (hE, .inl (cI, 7, .inl (upd E 1 (E 1 + nI 1)))), (hN9, .inl (cI, 128, .inl NM)), (hp, .inl (cI, 64, .inl PI)), (hL, .inl (cI, 46, .inl L))]) [4, 0, 5, 1, 2, 3] (by decide) rfl
      exact hret hP hD hS dX6_meet_26 rfl (by rw [show zo_meet S E k (zDS S n len0 tk0 mi) (nI j1) c2 = zerrE 1 S E from if_neg (by intro h9; first | exact absurd h9.1 (by assumption) | exact absurd h9.2.1 (by assumption) | exact absurd h9.2.2 (by assumption))]; exact ⟨_, _, _, rfl, rfl⟩)
    · have c13_5 := bI_n0.mp c13_5
      obtain ⟨j2, h_j2, rfl⟩ := zin_of c13_5 (by omega)
      refine lv_iload_n hx hb dX6_meet_16 rfl (lv_at hl 1 rfl) ?_
      refine lv_iload_n hx hb dX6_meet_17 rfl (lv_at hl 2 rfl) ?_
      refine lv_icmp_ne (tgt := 27) hx hb dX6_meet_18 (by decide) (fun c18_9 => ?_) (fun c18_9 => ?_)
      · have c18_9 : ¬ (j1 = j2) := fun h9 => c18_9 ((nI_eq (a := j1) (b := j2) (by omega) (by omega)).mpr h9)
        refine lv_aload_n hx hb dX6_meet_27 rfl (lv_at hl 0 rfl) ?_
        refine lv_iload_n hx hb dX6_meet_28 rfl (lv_at hl 1 rfl) ?_
        refine lv_iload_n hx hb dX6_meet_29 rfl (lv_at hl 2 rfl) ?_
        refine lv_sipush (v := nI 200) hx hb dX6_meet_30 (by decide) ?_
        refine zci (wr := [(hE, .inl (cI, 7, .inl E))]) (va_runV (As := [.int (nI j1), .int (nI j2), .int (nI 200)]) (rest := []) ⟨hx, hb, hml, hown, hts⟩ (c_X6_meets l D cI cJ h hs fs S n k hN9 hp hL NM PI L len0 tk0 mi j1 j2 200 (by first | rfl | assumption | omega) (by first | rfl | assumption | omega) (by first | rfl | assumption | omega) (by first | rfl | assumption | omega) (by first | rfl | assumption | omega) (by first | rfl | assumption | omega) (by first | rfl | assumption | omega) (by first | rfl | assumption | omega) (by first | rfl | assumption | omega) (by first | rfl | assumption | omega) (by first | rfl | assumption | omega) (by first | rfl | assumption | omega) (by first | rfl | assumption | omega) (by first | rfl | assumption | omega) (by first | rfl | assumption | omega) s.heap.size) (cwV 3 hts gX6_meet_X6_meets rfl rfl rfl (by decide +kernel) ⟨Nat.le_of_ble_eq_true rfl, Nat.le_of_ble_eq_true rfl⟩) (zpV hK hN hZ hP hD hS hA [0, 1, 3, 4, 5] rfl (by decide) 0 rfl rfl rfl) rfl rfl hl.1 rfl (lv_room (Nat.le_of_ble_eq_true rfl)) dX6_meet_33 ⟨Nat.zero_le _, Nat.zero_le _⟩) hP hD hS hA [0, 1, 3, 4, 5] [2] rfl rfl (by decide) (by decide) (fun r_12 w_11 H locs h_10 hP hD hS => ?_)
        obtain ⟨NM9_13, PI9_14, L9_15, rfl, rfl⟩ := h_10
        have hP : va_P D vwCl [(hE, .inl (cI, 7, .inl E)), (h, .inr (6, fs)), (hs, .inl (cI, 380, .inl S)), (hN9, .inl (cI, 128, .inl NM9_13)), (hp, .inl (cI, 64, .inl PI9_14)), (hL, .inl (cI, 46, .inl L9_15))] H := hP
        have hD : va_D AA [(hE, .inl (cI, 7, .inl E)), (h, .inr (6, fs)), (hs, .inl (cI, 380, .inl S)), (hN9, .inl (cI, 128, .inl NM9_13)), (hp, .inl (cI, 64, .inl PI9_14)), (hL, .inl (cI, 46, .inl L9_15))] := hD
        refine lv_istore_n (lv' := [(3, .int (zmt (zDS S n len0 tk0 mi) k j1 j2 200)), (0, .ref h), (1, .int (nI j1)), (2, .int (nI j2))]) hx hb dX6_meet_36 rfl hl (by decide) rfl (fun ls hl => ?_)
        refine lv_iload_n hx hb dX6_meet_37 rfl (lv_at hl 0 rfl) ?_
        refine lv_iconst (v := (-1)) hx hb dX6_meet_38 (by decide) ?_
        refine lv_icmp_ne (tgt := 50) hx hb dX6_meet_39 (by decide) (fun c39_16 => ?_) (fun c39_16 => ?_)
        · refine lv_iload_n hx hb dX6_meet_50 rfl (lv_at hl 0 rfl) ?_
          have hP := hP.sub (ws' := [(h, .inr (6, fs)), (hs, .inl (cI, 380, .inl S)), (hE, .inl (cI, 7, .inl E)), (hN9, .inl (cI, 128, .inl NM9_13)), (hp, .inl (cI, 64, .inl PI9_14)), (hL, .inl (cI, 46, .inl L9_15))]) [1, 2, 0, 3, 4, 5] rfl
          have hD := hD.sub (ws' := [(h, .inr (6, fs)), (hs, .inl (cI, 380, .inl S)), (hE, .inl (cI, 7, .inl E)), (hN9, .inl (cI, 128, .inl NM9_13)), (hp, .inl (cI, 64, .inl PI9_14)), (hL, .inl (cI, 46, .inl L9_15))]) [1, 2, 0, 3, 4, 5] (by decide) rfl
          exact hret hP hD hS dX6_meet_51 rfl (by rw [show zo_meet S E k (zDS S n len0 tk0 mi) (nI j1) (nI j2) = (zmt (zDS S n len0 tk0 mi) k j1 j2 200, S, E) from by rw [zo_meet, if_pos ⟨by assumption, by assumption, fun h9 => c18_9 ((nI_eq (by omega) (by omega)).mp h9)⟩, nI_clamp (show j1 < 2147483648 by omega), nI_clamp (show j2 < 2147483648 by omega), if_neg (by assumption)]]; exact ⟨_, _, _, rfl, rfl⟩)
        · refine lv_aload_n hx hb dX6_meet_42 rfl (lv_at hl 1 rfl) ?_
          refine lv_iconst (v := nI 2) hx hb dX6_meet_43 (by decide) ?_
          refine zci (wr := [(hs, .inl (cI, 380, .inl S)), (hN9, .inl (cI, 128, .inl NM9_13)), (hp, .inl (cI, 64, .inl PI9_14)), (hL, .inl (cI, 46, .inl L9_15))]) (va_runV (As := [.int (nI 2)]) (rest := []) ⟨hx, hb, hml, hown, hts⟩ (c_X6_error l D cI cJ h hE fs E 2 (by first | rfl | assumption | omega) (by first | rfl | assumption | omega) H.size) (cwV 1 hts gX6_meet_X6_error rfl rfl rfl (by decide +kernel) ⟨Nat.le_of_ble_eq_true rfl, Nat.le_of_ble_eq_true rfl⟩) (zpV hK hN hZ hP hD hS hA [1, 0] rfl (by decide) 1 rfl rfl rfl) rfl rfl hl.1 rfl (lv_room (Nat.le_of_ble_eq_true rfl)) dX6_meet_44 ⟨Nat.zero_le _, Nat.zero_le _⟩) hP hD hS hA [1, 0] [2, 3, 4, 5] rfl rfl (by decide) (by decide) (fun r_19 w_18 H locs h_17 hP hD hS => ?_)
          obtain ⟨rfl, rfl⟩ := h_17
          have hP : va_P D vwCl [(hs, .inl (cI, 380, .inl S)), (hN9, .inl (cI, 128, .inl NM9_13)), (hp, .inl (cI, 64, .inl PI9_14)), (hL, .inl (cI, 46, .inl L9_15)), (h, .inr (6, fs)), (hE, .inl (cI, 7, .inl (upd E 2 (E 2 + nI 1))))] H := hP
          have hD : va_D AA [(hs, .inl (cI, 380, .inl S)), (hN9, .inl (cI, 128, .inl NM9_13)), (hp, .inl (cI, 64, .inl PI9_14)), (hL, .inl (cI, 46, .inl L9_15)), (h, .inr (6, fs)), (hE, .inl (cI, 7, .inl (upd E 2 (E 2 + nI 1))))] := hD
          refine lv_goto (tgt := 51) hx hb dX6_meet_47 (by decide) ?_
          have hP := hP.sub (ws' := [(h, .inr (6, fs)), (hs, .inl (cI, 380, .inl S)), (hE, .inl (cI, 7, .inl (upd E 2 (E 2 + nI 1)))), (hN9, .inl (cI, 128, .inl NM9_13)), (hp, .inl (cI, 64, .inl PI9_14)), (hL, .inl (cI, 46, .inl L9_15))]) [4, 0, 5, 1, 2, 3] rfl
          have hD := hD.sub (ws' := [(h, .inr (6, fs)), (hs, .inl (cI, 380, .inl S)), (hE, .inl (cI, 7, .inl (upd E 2 (E 2 + nI 1)))), (hN9, .inl (cI, 128, .inl NM9_13)), (hp, .inl (cI, 64, .inl PI9_14)), (hL, .inl (cI, 46, .inl L9_15))]) [4, 0, 5, 1, 2, 3] (by decide) rfl
          exact hret hP hD hS dX6_meet_51 rfl (by rw [show zo_meet S E k (zDS S n len0 tk0 mi) (nI j1) (nI j2) = zerrE 2 S E from by rw [zo_meet, if_pos ⟨by assumption, by assumption, fun h9 => c18_9 ((nI_eq (by omega) (by omega)).mp h9)⟩, nI_clamp (show j1 < 2147483648 by omega), nI_clamp (show j2 < 2147483648 by omega), if_pos (by assumption)]]; exact ⟨_, _, _, rfl, rfl⟩)
      · have c18_9 : j1 = j2 := (nI_eq (a := j1) (b := j2) (by omega) (by omega)).mp c18_9
        refine lv_aload_n hx hb dX6_meet_21 rfl (lv_at hl 0 rfl) ?_
        refine lv_iconst (v := nI 1) hx hb dX6_meet_22 (by decide) ?_
        refine zci (wr := [(hs, .inl (cI, 380, .inl S)), (hN9, .inl (cI, 128, .inl NM)), (hp, .inl (cI, 64, .inl PI)), (hL, .inl (cI, 46, .inl L))]) (va_runV (As := [.int (nI 1)]) (rest := []) ⟨hx, hb, hml, hown, hts⟩ (c_X6_error l D cI cJ h hE fs E 1 (by first | rfl | assumption | omega) (by first | rfl | assumption | omega) s.heap.size) (cwV 1 hts gX6_meet_X6_error rfl rfl rfl (by decide +kernel) ⟨Nat.le_of_ble_eq_true rfl, Nat.le_of_ble_eq_true rfl⟩) (zpV hK hN hZ hP hD hS hA [0, 2] rfl (by decide) 0 rfl rfl rfl) rfl rfl hl.1 rfl (lv_room (Nat.le_of_ble_eq_true rfl)) dX6_meet_23 ⟨Nat.zero_le _, Nat.zero_le _⟩) hP hD hS hA [0, 2] [1, 3, 4, 5] rfl rfl (by decide) (by decide) (fun r_22 w_21 H locs h_20 hP hD hS => ?_)
        obtain ⟨rfl, rfl⟩ := h_20
        have hP : va_P D vwCl [(hs, .inl (cI, 380, .inl S)), (hN9, .inl (cI, 128, .inl NM)), (hp, .inl (cI, 64, .inl PI)), (hL, .inl (cI, 46, .inl L)), (h, .inr (6, fs)), (hE, .inl (cI, 7, .inl (upd E 1 (E 1 + nI 1))))] H := hP
        have hD : va_D AA [(hs, .inl (cI, 380, .inl S)), (hN9, .inl (cI, 128, .inl NM)), (hp, .inl (cI, 64, .inl PI)), (hL, .inl (cI, 46, .inl L)), (h, .inr (6, fs)), (hE, .inl (cI, 7, .inl (upd E 1 (E 1 + nI 1))))] := hD
        have hP := hP.sub (ws' := [(h, .inr (6, fs)), (hs, .inl (cI, 380, .inl S)), (hE, .inl (cI, 7, .inl (upd E 1 (E 1 + nI 1)))), (hN9, .inl (cI, 128, .inl NM)), (hp, .inl (cI, 64, .inl PI)), (hL, .inl (cI, 46, .inl L))]) [4, 0, 5, 1, 2, 3] rfl
        have hD := hD.sub (ws' := [(h, .inr (6, fs)), (hs, .inl (cI, 380, .inl S)), (hE, .inl (cI, 7, .inl (upd E 1 (E 1 + nI 1)))), (hN9, .inl (cI, 128, .inl NM)), (hp, .inl (cI, 64, .inl PI)), (hL, .inl (cI, 46, .inl L))]) [4, 0, 5, 1, 2, 3] (by decide) rfl
        exact hret hP hD hS dX6_meet_26 rfl (by rw [show zo_meet S E k (zDS S n len0 tk0 mi) (nI j1) (nI j2) = zerrE 1 S E from if_neg (fun h9 => h9.2.2 (congrArg nI c18_9))]; exact ⟨_, _, _, rfl, rfl⟩)
