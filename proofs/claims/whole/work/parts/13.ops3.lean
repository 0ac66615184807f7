
section ZR
variable {p : Program} {l : Launch} {e : Env} {R : Room} {s : State} {m : MethodId} {args : Array Value} {below : List Frame} {meth : Method} {c : Code} {H : Heap} {locs : List Loc} {cells slots : Nat} {Q : State → Prop}
variable {D : va_G} {ty : zTy} {A : Nat → Prop} {pc : Nat} {ls : Array Slot} {rest st0 : List Value} {cc : ByteArray} {a : Array Value}
def zSr (l : Launch) (y : MethodName) (ws : List Cond) (rm : Room) (D : va_G) (ty : zTy) (av : List Value) (W0 : va_W) (x : Nat) : Prop := ∀ sz : Nat, Met l y ws rm (va_Pc av (zB D ty W0 sz)) (va_Sr (fun k => k = x) (fun k => .ref k)) 0 0 (fun _ => False)
theorem zcr {x : Nat} (hr : va_Run p l e R s m args below meth c H locs cells slots 0 0 (F0 m pc ls st0) rest (va_Sr (fun k => k = x) (fun k => .ref k) a) (fun _ => False)) (kk : W p l e R s m args below meth c H locs cells slots Q (F0 m (pc + 3) ls (.ref x :: rest))) : W p l e R s m args below meth c H locs cells slots Q (F0 m pc ls st0) := va_csr hr.run (fun k h => by subst h; exact kk)
theorem zsti {t9 N0 : Nat} {f : Nat → Int32} {t : Nat} (hx : p.tables.exec = Jvm.exec) (hb : c.code = cc) (hT : va_T .int t9 N0 (fun j => .int (f j)) A s s.heap) (hS : va_S A s.heap H locs) (ht : t < N0) (hdg : decode cc pc = .ok (.iaload, 1)) (kk : W p l e R s m args below meth c H locs cells slots Q (F0 m (pc + 1) ls (.int (f t) :: rest))) (hN : N0 < 2147483648 := by decide) : W p l e R s m args below meth c H locs cells slots Q (F0 m pc ls (.int (nI t) :: .ref t9 :: rest)) :=
  va_ti hx hb hT hS (vp_in_nI ht hN) (by rw [nI_clamp (Nat.lt_trans ht hN)]) hdg kk
end ZR
theorem zSr.start {l : Launch} {y : MethodName} {ws ws' : List Cond} {rm : Room} {D : va_G} {ty : zTy} {av : List Value} {W0 : va_W} {x : Nat} {cc : ByteArray} {maxL : Nat} {rt : FieldType} (hy : plainFor y = true) (hw : ws = Cond.code y cc maxL (some rt) :: ws') (hlen : (lg_sl av).length ≤ maxL)
    (body : ∀ (p : Program) (e : Env) (s : State) (m : MethodId) (args : Array Value) (below : List Frame) (meth : Method) (c : Code) (ls : Array Slot) (A : Nat → Prop) (Q : State → Prop), zSt p s m args meth c cc maxL (some rt) y.cls ws D ty W0 A ls av → (∀ {k : Nat} {pc : Nat} {ls : Array Slot}, decode cc pc = .ok (.areturn, 1) → ((∃ n, rt = .object n) ∨ ∃ t, rt = .array t) → k = x → W p l e rm s m args below meth c s.heap [] 0 0 Q (F0 m pc ls [.ref k])) → W p l e rm s m args below meth c s.heap [] 0 0 Q (F0 m 0 ls [])) : zSr l y ws rm D ty av W0 x :=
  fun _ => zstart hy hw hlen (fun p e s m args below meth c ls _ h => body p e s m args below meth c ls _ _ h (fun {k} {pc} {ls} hdg hrt hk => W.aret h.1 h.2.1 h.2.2.2.1 hrt (Or.inr ⟨k, rfl⟩) (fun t ht hW => ⟨k, rfl, hk, ht⟩) (fun _ h => by cases h) hdg h.2.2.2.2.1))
/-- one of a kind, or of one under it -/
abbrev zund (kd t : Nat) : Prop := t = kd ∨ t = 0 ∨ (kd = 4 ∧ t = 1) ∨ (kd = 5 ∧ t = 2)
abbrev bI9 (kd t : Nat) : Int32 := bI (zund kd t)

theorem zsw9 {x : Int32} (h0 : ¬ x = nI 0) (h1 : ¬ x = nI 1) (h2 : ¬ x = nI 2) (h3 : ¬ x = nI 3) (h4 : ¬ x = nI 4) (h5 : ¬ x = nI 5) (h6 : ¬ x = nI 6) (h7 : ¬ x = nI 7) (h8 : ¬ x = nI 8) : x.toInt < 0 ∨ 8 < x.toInt := by
  rcases Int.lt_or_le x.toInt 0 with q | q
  · exact Or.inl q
  · right
    apply Classical.byContradiction
    intro h
    obtain ⟨j, hj, e⟩ := zin_of (k := x) (n := 9) ⟨q, by omega⟩ (by decide)
    rcases (show j = 0 ∨ j = 1 ∨ j = 2 ∨ j = 3 ∨ j = 4 ∨ j = 5 ∨ j = 6 ∨ j = 7 ∨ j = 8 by omega) with q | q | q | q | q | q | q | q | q <;> subst q <;> contradiction
set_option maxHeartbeats 4000000 in
set_option maxRecDepth 100000 in
theorem c_X5_isUnder (l : Launch) (D : va_G) (cI cJ : ClassId) (kd : Nat) (t : Nat) (hkd7 : kd < 7) (ht6 : t ≤ 6) : zSi l yX5_isUnder wsX5_isUnder ({ frames := 1, cells := 0, slots := 0, locals := 22 } : Room) D [(cI, .int), (cJ, .array .int)] [.int (nI kd), .int (nI t)] [] (fun r => r = bI (zund kd t)) := by
  refine zSi.start (cc := cX5_isUnder) (maxL := 4) (rt := .boolean) (by first | decide | decide +kernel) rfl (Nat.le_of_ble_eq_true rfl) ?_
  intro pg ev s mt args below meth cd ls AA QQ ⟨hx, hb, hml, hr, hlocks, hown, hts, hK, hN, hZ, hP, hD, hA, hS, hl⟩ hret
  have hown : s.vm.findClass RX5 = some mt.cls := hown
  have hl : lv_has ls 4 [(0, .int (nI kd)), (1, .int (nI t))] := hl
  rcases (show kd = 0 ∨ kd = 1 ∨ kd = 2 ∨ kd = 3 ∨ kd = 4 ∨ kd = 5 ∨ kd = 6 from by omega) with h9 | h9 | h9 | h9 | h9 | h9 | h9
  · subst h9
    refine lv_iload_n hx hb dX5_isUnder_0 rfl (lv_at hl 0 rfl) ?_
    refine lv_istore_n (lv' := [(2, .int (nI 0)), (0, .int (nI 0)), (1, .int (nI t))]) hx hb dX5_isUnder_1 rfl hl (by decide) rfl (fun ls hl => ?_)
    refine lv_iconst (v := nI 0) hx hb dX5_isUnder_2 (by decide) ?_
    refine lv_istore_n (lv' := [(3, .int (nI 0)), (2, .int (nI 0)), (0, .int (nI 0)), (1, .int (nI t))]) hx hb dX5_isUnder_3 rfl hl (by decide) rfl (fun ls hl => ?_)
    refine lv_iload_n hx hb dX5_isUnder_4 rfl (lv_at hl 0 rfl) ?_
    refine lv_bipush (v := nI 7) hx hb dX5_isUnder_5 (by decide) ?_
    refine lv_icmp_ge (tgt := 39) hx hb dX5_isUnder_7 (by decide) (fun c7_1 => ?_) (fun c7_1 => ?_)
    · have c7_1 : 7 ≤ 0 := (nI_leI (a := 7) (b := 0) (by omega) (by omega)).mp c7_1
      exact absurd c7_1 (by omega)
    · have c7_1 : ¬ (7 ≤ 0) := fun h9 => c7_1 ((nI_leI (a := 7) (b := 0) (by omega) (by omega)).mpr h9)
      refine lv_iload_n hx hb dX5_isUnder_10 rfl (lv_at hl 1 rfl) ?_
      refine lv_iconst (v := nI 0) hx hb dX5_isUnder_11 (by decide) ?_
      refine lv_bipush (v := nI 6) hx hb dX5_isUnder_12 (by decide) ?_
      refine zcsE (va_runS (As := [.int (nI 0), .int (nI 0), .int (nI 6)]) (rest := []) ⟨hx, hb, hml, hown, hts⟩ (d_X5_isOutside l D cI cJ (nI 0) (nI 0) (nI 6) 0 6 (by decide) (by decide) s.heap.size) (va_cwS 3 hts gX5_isUnder_X5_isOutside rfl rfl rfl (by decide +kernel) ⟨Nat.le_of_ble_eq_true rfl, Nat.le_of_ble_eq_true rfl⟩) (zpS hK hN hZ hP hD hS hA [] rfl (by decide)) rfl rfl hl.1 rfl (lv_room (Nat.le_of_ble_eq_true rfl)) dX5_isUnder_14 ⟨Nat.zero_le _, Nat.zero_le _⟩) ?_
      refine lv_if_ne (tgt := 39) hx hb dX5_isUnder_17 (by decide) (fun c17_2 => ?_) (fun c17_2 => ?_)
      · have c17_2 := bI_nn0.mp c17_2
        exact absurd (show zrg 0 6 (nI 0) by decide) c17_2
      · have c17_2 := bI_nX0.mp c17_2
        refine lv_iload_n hx hb dX5_isUnder_20 rfl (lv_at hl 1 rfl) ?_
        refine lv_iload_n hx hb dX5_isUnder_21 rfl (lv_at hl 3 rfl) ?_
        refine lv_icmp_ne (tgt := 27) hx hb dX5_isUnder_22 (by decide) (fun c22_3 => ?_) (fun c22_3 => ?_)
        · have c22_3 : ¬ (0 = t) := fun h9 => c22_3 ((nI_eq (a := 0) (b := t) (by omega) (by omega)).mpr h9)
          obtain ⟨t_KIND_ABOVE, hz1a, hz1b⟩ := hZ.1
          refine va_gets hx hb hz1a hS hown (hts (.fieldLink RX5 270 "UpAllRound" "KIND_ABOVE" "[I") (List.mem_of_getElem? (i := 1) rfl)) (fun _ h9 => h9) dX5_isUnder_27 ?_
          refine lv_iload_n hx hb dX5_isUnder_30 rfl (lv_at hl 1 rfl) ?_
          refine zsti (t := 0) hx hb hz1b hS (by omega) dX5_isUnder_31 ?_
          refine zrw (show zKA 0 = -1 from rfl) ?_
          refine lv_istore_n (lv' := [(2, .int ((-1))), (3, .int (nI 0)), (0, .int (nI 0)), (1, .int (nI t))]) hx hb dX5_isUnder_32 rfl hl (by decide) rfl (fun ls hl => ?_)
          refine lv_iinc (v := nI (0 + 1)) (lv' := [(3, .int (nI (0 + 1))), (2, .int ((-1))), (0, .int (nI 0)), (1, .int (nI t))]) hx hb dX5_isUnder_33 hl (k := 1) rfl (nI_add _ _) (by decide) rfl (fun ls hl => ?_)
          refine lv_goto (tgt := 4) hx hb dX5_isUnder_36 (by decide) ?_
          refine lv_iload_n hx hb dX5_isUnder_4 rfl (lv_at hl 0 rfl) ?_
          refine lv_bipush (v := nI 7) hx hb dX5_isUnder_5 (by decide) ?_
          refine lv_icmp_ge (tgt := 39) hx hb dX5_isUnder_7 (by decide) (fun c7_4 => ?_) (fun c7_4 => ?_)
          · have c7_4 : 7 ≤ (0 + 1) := (nI_leI (a := 7) (b := 0 + 1) (by omega) (by omega)).mp c7_4
            exact absurd c7_4 (by omega)
          · have c7_4 : ¬ (7 ≤ (0 + 1)) := fun h9 => c7_4 ((nI_leI (a := 7) (b := 0 + 1) (by omega) (by omega)).mpr h9)
            refine lv_iload_n hx hb dX5_isUnder_10 rfl (lv_at hl 1 rfl) ?_
            refine lv_iconst (v := nI 0) hx hb dX5_isUnder_11 (by decide) ?_
            refine lv_bipush (v := nI 6) hx hb dX5_isUnder_12 (by decide) ?_
            refine zcsE (va_runS (As := [.int ((-1)), .int (nI 0), .int (nI 6)]) (rest := []) ⟨hx, hb, hml, hown, hts⟩ (d_X5_isOutside l D cI cJ ((-1)) (nI 0) (nI 6) 0 6 (by decide) (by decide) s.heap.size) (va_cwS 3 hts gX5_isUnder_X5_isOutside rfl rfl rfl (by decide +kernel) ⟨Nat.le_of_ble_eq_true rfl, Nat.le_of_ble_eq_true rfl⟩) (zpS hK hN hZ hP hD hS hA [] rfl (by decide)) rfl rfl hl.1 rfl (lv_room (Nat.le_of_ble_eq_true rfl)) dX5_isUnder_14 ⟨Nat.zero_le _, Nat.zero_le _⟩) ?_
            refine lv_if_ne (tgt := 39) hx hb dX5_isUnder_17 (by decide) (fun c17_5 => ?_) (fun c17_5 => ?_)
            · have c17_5 := bI_nn0.mp c17_5
              refine lv_iconst (v := nI 0) hx hb dX5_isUnder_39 (by decide) ?_
              exact hret dX5_isUnder_40 rfl (by exact (bI_f (by omega)).symm)
            · have c17_5 := bI_nX0.mp c17_5
              exact absurd c17_5 (show ¬ zrg 0 6 (-1) by decide)
        · have c22_3 : 0 = t := (nI_eq (a := 0) (b := t) (by omega) (by omega)).mp c22_3
          refine lv_iconst (v := nI 1) hx hb dX5_isUnder_25 (by decide) ?_
          exact hret dX5_isUnder_26 rfl (by exact (bI_t (by omega)).symm)
  · subst h9
    refine lv_iload_n hx hb dX5_isUnder_0 rfl (lv_at hl 0 rfl) ?_
    refine lv_istore_n (lv' := [(2, .int (nI 1)), (0, .int (nI 1)), (1, .int (nI t))]) hx hb dX5_isUnder_1 rfl hl (by decide) rfl (fun ls hl => ?_)
    refine lv_iconst (v := nI 0) hx hb dX5_isUnder_2 (by decide) ?_
    refine lv_istore_n (lv' := [(3, .int (nI 0)), (2, .int (nI 1)), (0, .int (nI 1)), (1, .int (nI t))]) hx hb dX5_isUnder_3 rfl hl (by decide) rfl (fun ls hl => ?_)
    refine lv_iload_n hx hb dX5_isUnder_4 rfl (lv_at hl 0 rfl) ?_
    refine lv_bipush (v := nI 7) hx hb dX5_isUnder_5 (by decide) ?_
    refine lv_icmp_ge (tgt := 39) hx hb dX5_isUnder_7 (by decide) (fun c7_6 => ?_) (fun c7_6 => ?_)
    · have c7_6 : 7 ≤ 0 := (nI_leI (a := 7) (b := 0) (by omega) (by omega)).mp c7_6
      exact absurd c7_6 (by omega)
    · have c7_6 : ¬ (7 ≤ 0) := fun h9 => c7_6 ((nI_leI (a := 7) (b := 0) (by omega) (by omega)).mpr h9)
      refine lv_iload_n hx hb dX5_isUnder_10 rfl (lv_at hl 1 rfl) ?_
      refine lv_iconst (v := nI 0) hx hb dX5_isUnder_11 (by decide) ?_
      refine lv_bipush (v := nI 6) hx hb dX5_isUnder_12 (by decide) ?_
      refine zcsE (va_runS (As := [.int (nI 1), .int (nI 0), .int (nI 6)]) (rest := []) ⟨hx, hb, hml, hown, hts⟩ (d_X5_isOutside l D cI cJ (nI 1) (nI 0) (nI 6) 0 6 (by decide) (by decide) s.heap.size) (va_cwS 3 hts gX5_isUnder_X5_isOutside rfl rfl rfl (by decide +kernel) ⟨Nat.le_of_ble_eq_true rfl, Nat.le_of_ble_eq_true rfl⟩) (zpS hK hN hZ hP hD hS hA [] rfl (by decide)) rfl rfl hl.1 rfl (lv_room (Nat.le_of_ble_eq_true rfl)) dX5_isUnder_14 ⟨Nat.zero_le _, Nat.zero_le _⟩) ?_
      refine lv_if_ne (tgt := 39) hx hb dX5_isUnder_17 (by decide) (fun c17_7 => ?_) (fun c17_7 => ?_)
      · have c17_7 := bI_nn0.mp c17_7
        exact absurd (show zrg 0 6 (nI 1) by decide) c17_7
      · have c17_7 := bI_nX0.mp c17_7
        refine lv_iload_n hx hb dX5_isUnder_20 rfl (lv_at hl 1 rfl) ?_
        refine lv_iload_n hx hb dX5_isUnder_21 rfl (lv_at hl 3 rfl) ?_
        refine lv_icmp_ne (tgt := 27) hx hb dX5_isUnder_22 (by decide) (fun c22_8 => ?_) (fun c22_8 => ?_)
        · have c22_8 : ¬ (1 = t) := fun h9 => c22_8 ((nI_eq (a := 1) (b := t) (by omega) (by omega)).mpr h9)
          obtain ⟨t_KIND_ABOVE, hz1a, hz1b⟩ := hZ.1
          refine va_gets hx hb hz1a hS hown (hts (.fieldLink RX5 270 "UpAllRound" "KIND_ABOVE" "[I") (List.mem_of_getElem? (i := 1) rfl)) (fun _ h9 => h9) dX5_isUnder_27 ?_
          refine lv_iload_n hx hb dX5_isUnder_30 rfl (lv_at hl 1 rfl) ?_
          refine zsti (t := 1) hx hb hz1b hS (by omega) dX5_isUnder_31 ?_
          refine zrw (show zKA 1 = nI 0 from rfl) ?_
          refine lv_istore_n (lv' := [(2, .int (nI 0)), (3, .int (nI 0)), (0, .int (nI 1)), (1, .int (nI t))]) hx hb dX5_isUnder_32 rfl hl (by decide) rfl (fun ls hl => ?_)
          refine lv_iinc (v := nI (0 + 1)) (lv' := [(3, .int (nI (0 + 1))), (2, .int (nI 0)), (0, .int (nI 1)), (1, .int (nI t))]) hx hb dX5_isUnder_33 hl (k := 1) rfl (nI_add _ _) (by decide) rfl (fun ls hl => ?_)
          refine lv_goto (tgt := 4) hx hb dX5_isUnder_36 (by decide) ?_
          refine lv_iload_n hx hb dX5_isUnder_4 rfl (lv_at hl 0 rfl) ?_
          refine lv_bipush (v := nI 7) hx hb dX5_isUnder_5 (by decide) ?_
          refine lv_icmp_ge (tgt := 39) hx hb dX5_isUnder_7 (by decide) (fun c7_9 => ?_) (fun c7_9 => ?_)
          · have c7_9 : 7 ≤ (0 + 1) := (nI_leI (a := 7) (b := 0 + 1) (by omega) (by omega)).mp c7_9
            exact absurd c7_9 (by omega)
          · have c7_9 : ¬ (7 ≤ (0 + 1)) := fun h9 => c7_9 ((nI_leI (a := 7) (b := 0 + 1) (by omega) (by omega)).mpr h9)
            refine lv_iload_n hx hb dX5_isUnder_10 rfl (lv_at hl 1 rfl) ?_
            refine lv_iconst (v := nI 0) hx hb dX5_isUnder_11 (by decide) ?_
            refine lv_bipush (v := nI 6) hx hb dX5_isUnder_12 (by decide) ?_
            refine zcsE (va_runS (As := [.int (nI 0), .int (nI 0), .int (nI 6)]) (rest := []) ⟨hx, hb, hml, hown, hts⟩ (d_X5_isOutside l D cI cJ (nI 0) (nI 0) (nI 6) 0 6 (by decide) (by decide) s.heap.size) (va_cwS 3 hts gX5_isUnder_X5_isOutside rfl rfl rfl (by decide +kernel) ⟨Nat.le_of_ble_eq_true rfl, Nat.le_of_ble_eq_true rfl⟩) (zpS hK hN hZ hP hD hS hA [] rfl (by decide)) rfl rfl hl.1 rfl (lv_room (Nat.le_of_ble_eq_true rfl)) dX5_isUnder_14 ⟨Nat.zero_le _, Nat.zero_le _⟩) ?_
            refine lv_if_ne (tgt := 39) hx hb dX5_isUnder_17 (by decide) (fun c17_10 => ?_) (fun c17_10 => ?_)
            · have c17_10 := bI_nn0.mp c17_10
              exact absurd (show zrg 0 6 (nI 0) by decide) c17_10
            · have c17_10 := bI_nX0.mp c17_10
              refine lv_iload_n hx hb dX5_isUnder_20 rfl (lv_at hl 1 rfl) ?_
              refine lv_iload_n hx hb dX5_isUnder_21 rfl (lv_at hl 3 rfl) ?_
              refine lv_icmp_ne (tgt := 27) hx hb dX5_isUnder_22 (by decide) (fun c22_11 => ?_) (fun c22_11 => ?_)
              · have c22_11 : ¬ (0 = t) := fun h9 => c22_11 ((nI_eq (a := 0) (b := t) (by omega) (by omega)).mpr h9)
                obtain ⟨t_KIND_ABOVE, hz1a, hz1b⟩ := hZ.1
                refine va_gets hx hb hz1a hS hown (hts (.fieldLink RX5 270 "UpAllRound" "KIND_ABOVE" "[I") (List.mem_of_getElem? (i := 1) rfl)) (fun _ h9 => h9) dX5_isUnder_27 ?_
                refine lv_iload_n hx hb dX5_isUnder_30 rfl (lv_at hl 1 rfl) ?_
                refine zsti (t := 0) hx hb hz1b hS (by omega) dX5_isUnder_31 ?_
                refine zrw (show zKA 0 = -1 from rfl) ?_
                refine lv_istore_n (lv' := [(2, .int ((-1))), (3, .int (nI (0 + 1))), (0, .int (nI 1)), (1, .int (nI t))]) hx hb dX5_isUnder_32 rfl hl (by decide) rfl (fun ls hl => ?_)
                refine lv_iinc (v := nI (0 + 1 + 1)) (lv' := [(3, .int (nI (0 + 1 + 1))), (2, .int ((-1))), (0, .int (nI 1)), (1, .int (nI t))]) hx hb dX5_isUnder_33 hl (k := 1) rfl (nI_add _ _) (by decide) rfl (fun ls hl => ?_)
                refine lv_goto (tgt := 4) hx hb dX5_isUnder_36 (by decide) ?_
                refine lv_iload_n hx hb dX5_isUnder_4 rfl (lv_at hl 0 rfl) ?_
                refine lv_bipush (v := nI 7) hx hb dX5_isUnder_5 (by decide) ?_
                refine lv_icmp_ge (tgt := 39) hx hb dX5_isUnder_7 (by decide) (fun c7_12 => ?_) (fun c7_12 => ?_)
                · have c7_12 : 7 ≤ (0 + 1 + 1) := (nI_leI (a := 7) (b := 0 + 1 + 1) (by omega) (by omega)).mp c7_12
                  exact absurd c7_12 (by omega)
                · have c7_12 : ¬ (7 ≤ (0 + 1 + 1)) := fun h9 => c7_12 ((nI_leI (a := 7) (b := 0 + 1 + 1) (by omega) (by omega)).mpr h9)
                  refine lv_iload_n hx hb dX5_isUnder_10 rfl (lv_at hl 1 rfl) ?_
                  refine lv_iconst (v := nI 0) hx hb dX5_isUnder_11 (by decide) ?_
                  refine lv_bipush (v := nI 6) hx hb dX5_isUnder_12 (by decide) ?_
                  refine zcsE (va_runS (As := [.int ((-1)), .int (nI 0), .int (nI 6)]) (rest := []) ⟨hx, hb, hml, hown, hts⟩ (d_X5_isOutside l D cI cJ ((-1)) (nI 0) (nI 6) 0 6 (by decide) (by decide) s.heap.size) (va_cwS 3 hts gX5_isUnder_X5_isOutside rfl rfl rfl (by decide +kernel) ⟨Nat.le_of_ble_eq_true rfl, Nat.le_of_ble_eq_true rfl⟩) (zpS hK hN hZ hP hD hS hA [] rfl (by decide)) rfl rfl hl.1 rfl (lv_room (Nat.le_of_ble_eq_true rfl)) dX5_isUnder_14 ⟨Nat.zero_le _, Nat.zero_le _⟩) ?_
                  refine lv_if_ne (tgt := 39) hx hb dX5_isUnder_17 (by decide) (fun c17_13 => ?_) (fun c17_13 => ?_)
                  · have c17_13 := bI_nn0.mp c17_13
                    refine lv_iconst (v := nI 0) hx hb dX5_isUnder_39 (by decide) ?_
                    exact hret dX5_isUnder_40 rfl (by exact (bI_f (by omega)).symm)
                  · have c17_13 := bI_nX0.mp c17_13
                    exact absurd c17_13 (show ¬ zrg 0 6 (-1) by decide)
              · have c22_11 : 0 = t := (nI_eq (a := 0) (b := t) (by omega) (by omega)).mp c22_11
                refine lv_iconst (v := nI 1) hx hb dX5_isUnder_25 (by decide) ?_
                exact hret dX5_isUnder_26 rfl (by exact (bI_t (by omega)).symm)
        · have c22_8 : 1 = t := (nI_eq (a := 1) (b := t) (by omega) (by omega)).mp c22_8
          refine lv_iconst (v := nI 1) hx hb dX5_isUnder_25 (by decide) ?_
          exact hret dX5_isUnder_26 rfl (by exact (bI_t (by omega)).symm)
  · subst h9
    refine lv_iload_n hx hb dX5_isUnder_0 rfl (lv_at hl 0 rfl) ?_
    refine lv_istore_n (lv' := [(2, .int (nI 2)), (0, .int (nI 2)), (1, .int (nI t))]) hx hb dX5_isUnder_1 rfl hl (by decide) rfl (fun ls hl => ?_)
    refine lv_iconst (v := nI 0) hx hb dX5_isUnder_2 (by decide) ?_
    refine lv_istore_n (lv' := [(3, .int (nI 0)), (2, .int (nI 2)), (0, .int (nI 2)), (1, .int (nI t))]) hx hb dX5_isUnder_3 rfl hl (by decide) rfl (fun ls hl => ?_)
    refine lv_iload_n hx hb dX5_isUnder_4 rfl (lv_at hl 0 rfl) ?_
    refine lv_bipush (v := nI 7) hx hb dX5_isUnder_5 (by decide) ?_
    refine lv_icmp_ge (tgt := 39) hx hb dX5_isUnder_7 (by decide) (fun c7_14 => ?_) (fun c7_14 => ?_)
    · have c7_14 : 7 ≤ 0 := (nI_leI (a := 7) (b := 0) (by omega) (by omega)).mp c7_14
      exact absurd c7_14 (by omega)
    · have c7_14 : ¬ (7 ≤ 0) := fun h9 => c7_14 ((nI_leI (a := 7) (b := 0) (by omega) (by omega)).mpr h9)
      refine lv_iload_n hx hb dX5_isUnder_10 rfl (lv_at hl 1 rfl) ?_
      refine lv_iconst (v := nI 0) hx hb dX5_isUnder_11 (by decide) ?_
      refine lv_bipush (v := nI 6) hx hb dX5_isUnder_12 (by decide) ?_
      refine zcsE (va_runS (As := [.int (nI 2), .int (nI 0), .int (nI 6)]) (rest := []) ⟨hx, hb, hml, hown, hts⟩ (d_X5_isOutside l D cI cJ (nI 2) (nI 0) (nI 6) 0 6 (by decide) (by decide) s.heap.size) (va_cwS 3 hts gX5_isUnder_X5_isOutside rfl rfl rfl (by decide +kernel) ⟨Nat.le_of_ble_eq_true rfl, Nat.le_of_ble_eq_true rfl⟩) (zpS hK hN hZ hP hD hS hA [] rfl (by decide)) rfl rfl hl.1 rfl (lv_room (Nat.le_of_ble_eq_true rfl)) dX5_isUnder_14 ⟨Nat.zero_le _, Nat.zero_le _⟩) ?_
      refine lv_if_ne (tgt := 39) hx hb dX5_isUnder_17 (by decide) (fun c17_15 => ?_) (fun c17_15 => ?_)
      · have c17_15 := bI_nn0.mp c17_15
        exact absurd (show zrg 0 6 (nI 2) by decide) c17_15
      · have c17_15 := bI_nX0.mp c17_15
        refine lv_iload_n hx hb dX5_isUnder_20 rfl (lv_at hl 1 rfl) ?_
        refine lv_iload_n hx hb dX5_isUnder_21 rfl (lv_at hl 3 rfl) ?_
        refine lv_icmp_ne (tgt := 27) hx hb dX5_isUnder_22 (by decide) (fun c22_16 => ?_) (fun c22_16 => ?_)
        · have c22_16 : ¬ (2 = t) := fun h9 => c22_16 ((nI_eq (a := 2) (b := t) (by omega) (by omega)).mpr h9)
          obtain ⟨t_KIND_ABOVE, hz1a, hz1b⟩ := hZ.1
          refine va_gets hx hb hz1a hS hown (hts (.fieldLink RX5 270 "UpAllRound" "KIND_ABOVE" "[I") (List.mem_of_getElem? (i := 1) rfl)) (fun _ h9 => h9) dX5_isUnder_27 ?_
          refine lv_iload_n hx hb dX5_isUnder_30 rfl (lv_at hl 1 rfl) ?_
          refine zsti (t := 2) hx hb hz1b hS (by omega) dX5_isUnder_31 ?_
          refine zrw (show zKA 2 = nI 0 from rfl) ?_
          refine lv_istore_n (lv' := [(2, .int (nI 0)), (3, .int (nI 0)), (0, .int (nI 2)), (1, .int (nI t))]) hx hb dX5_isUnder_32 rfl hl (by decide) rfl (fun ls hl => ?_)
          refine lv_iinc (v := nI (0 + 1)) (lv' := [(3, .int (nI (0 + 1))), (2, .int (nI 0)), (0, .int (nI 2)), (1, .int (nI t))]) hx hb dX5_isUnder_33 hl (k := 1) rfl (nI_add _ _) (by decide) rfl (fun ls hl => ?_)
          refine lv_goto (tgt := 4) hx hb dX5_isUnder_36 (by decide) ?_
          refine lv_iload_n hx hb dX5_isUnder_4 rfl (lv_at hl 0 rfl) ?_
          refine lv_bipush (v := nI 7) hx hb dX5_isUnder_5 (by decide) ?_
          refine lv_icmp_ge (tgt := 39) hx hb dX5_isUnder_7 (by decide) (fun c7_17 => ?_) (fun c7_17 => ?_)
          · have c7_17 : 7 ≤ (0 + 1) := (nI_leI (a := 7) (b := 0 + 1) (by omega) (by omega)).mp c7_17
            exact absurd c7_17 (by omega)
          · have c7_17 : ¬ (7 ≤ (0 + 1)) := fun h9 => c7_17 ((nI_leI (a := 7) (b := 0 + 1) (by omega) (by omega)).mpr h9)
            refine lv_iload_n hx hb dX5_isUnder_10 rfl (lv_at hl 1 rfl) ?_
            refine lv_iconst (v := nI 0) hx hb dX5_isUnder_11 (by decide) ?_
            refine lv_bipush (v := nI 6) hx hb dX5_isUnder_12 (by decide) ?_
            refine zcsE (va_runS (As := [.int (nI 0), .int (nI 0), .int (nI 6)]) (rest := []) ⟨hx, hb, hml, hown, hts⟩ (d_X5_isOutside l D cI cJ (nI 0) (nI 0) (nI 6) 0 6 (by decide) (by decide) s.heap.size) (va_cwS 3 hts gX5_isUnder_X5_isOutside rfl rfl rfl (by decide +kernel) ⟨Nat.le_of_ble_eq_true rfl, Nat.le_of_ble_eq_true rfl⟩) (zpS hK hN hZ hP hD hS hA [] rfl (by decide)) rfl rfl hl.1 rfl (lv_room (Nat.le_of_ble_eq_true rfl)) dX5_isUnder_14 ⟨Nat.zero_le _, Nat.zero_le _⟩) ?_
            refine lv_if_ne (tgt := 39) hx hb dX5_isUnder_17 (by decide) (fun c17_18 => ?_) (fun c17_18 => ?_)
            · have c17_18 := bI_nn0.mp c17_18
              exact absurd (show zrg 0 6 (nI 0) by decide) c17_18
            · have c17_18 := bI_nX0.mp c17_18
              refine lv_iload_n hx hb dX5_isUnder_20 rfl (lv_at hl 1 rfl) ?_
              refine lv_iload_n hx hb dX5_isUnder_21 rfl (lv_at hl 3 rfl) ?_
              refine lv_icmp_ne (tgt := 27) hx hb dX5_isUnder_22 (by decide) (fun c22_19 => ?_) (fun c22_19 => ?_)
              · have c22_19 : ¬ (0 = t) := fun h9 => c22_19 ((nI_eq (a := 0) (b := t) (by omega) (by omega)).mpr h9)
                obtain ⟨t_KIND_ABOVE, hz1a, hz1b⟩ := hZ.1
                refine va_gets hx hb hz1a hS hown (hts (.fieldLink RX5 270 "UpAllRound" "KIND_ABOVE" "[I") (List.mem_of_getElem? (i := 1) rfl)) (fun _ h9 => h9) dX5_isUnder_27 ?_
                refine lv_iload_n hx hb dX5_isUnder_30 rfl (lv_at hl 1 rfl) ?_
                refine zsti (t := 0) hx hb hz1b hS (by omega) dX5_isUnder_31 ?_
                refine zrw (show zKA 0 = -1 from rfl) ?_
                refine lv_istore_n (lv' := [(2, .int ((-1))), (3, .int (nI (0 + 1))), (0, .int (nI 2)), (1, .int (nI t))]) hx hb dX5_isUnder_32 rfl hl (by decide) rfl (fun ls hl => ?_)
                refine lv_iinc (v := nI (0 + 1 + 1)) (lv' := [(3, .int (nI (0 + 1 + 1))), (2, .int ((-1))), (0, .int (nI 2)), (1, .int (nI t))]) hx hb dX5_isUnder_33 hl (k := 1) rfl (nI_add _ _) (by decide) rfl (fun ls hl => ?_)
                refine lv_goto (tgt := 4) hx hb dX5_isUnder_36 (by decide) ?_
                refine lv_iload_n hx hb dX5_isUnder_4 rfl (lv_at hl 0 rfl) ?_
                refine lv_bipush (v := nI 7) hx hb dX5_isUnder_5 (by decide) ?_
                refine lv_icmp_ge (tgt := 39) hx hb dX5_isUnder_7 (by decide) (fun c7_20 => ?_) (fun c7_20 => ?_)
                · have c7_20 : 7 ≤ (0 + 1 + 1) := (nI_leI (a := 7) (b := 0 + 1 + 1) (by omega) (by omega)).mp c7_20
                  exact absurd c7_20 (by omega)
                · have c7_20 : ¬ (7 ≤ (0 + 1 + 1)) := fun h9 => c7_20 ((nI_leI (a := 7) (b := 0 + 1 + 1) (by omega) (by omega)).mpr h9)
                  refine lv_iload_n hx hb dX5_isUnder_10 rfl (lv_at hl 1 rfl) ?_
                  refine lv_iconst (v := nI 0) hx hb dX5_isUnder_11 (by decide) ?_
                  refine lv_bipush (v := nI 6) hx hb dX5_isUnder_12 (by decide) ?_
                  refine zcsE (va_runS (As := [.int ((-1)), .int (nI 0), .int (nI 6)]) (rest := []) ⟨hx, hb, hml, hown, hts⟩ (d_X5_isOutside l D cI cJ ((-1)) (nI 0) (nI 6) 0 6 (by decide) (by decide) s.heap.size) (va_cwS 3 hts gX5_isUnder_X5_isOutside rfl rfl rfl (by decide +kernel) ⟨Nat.le_of_ble_eq_true rfl, Nat.le_of_ble_eq_true rfl⟩) (zpS hK hN hZ hP hD hS hA [] rfl (by decide)) rfl rfl hl.1 rfl (lv_room (Nat.le_of_ble_eq_true rfl)) dX5_isUnder_14 ⟨Nat.zero_le _, Nat.zero_le _⟩) ?_
                  refine lv_if_ne (tgt := 39) hx hb dX5_isUnder_17 (by decide) (fun c17_21 => ?_) (fun c17_21 => ?_)
                  · have c17_21 := bI_nn0.mp c17_21
                    refine lv_iconst (v := nI 0) hx hb dX5_isUnder_39 (by decide) ?_
                    exact hret dX5_isUnder_40 rfl (by exact (bI_f (by omega)).symm)
                  · have c17_21 := bI_nX0.mp c17_21
                    exact absurd c17_21 (show ¬ zrg 0 6 (-1) by decide)
              · have c22_19 : 0 = t := (nI_eq (a := 0) (b := t) (by omega) (by omega)).mp c22_19
                refine lv_iconst (v := nI 1) hx hb dX5_isUnder_25 (by decide) ?_
                exact hret dX5_isUnder_26 rfl (by exact (bI_t (by omega)).symm)
        · have c22_16 : 2 = t := (nI_eq (a := 2) (b := t) (by omega) (by omega)).mp c22_16
          refine lv_iconst (v := nI 1) hx hb dX5_isUnder_25 (by decide) ?_
          exact hret dX5_isUnder_26 rfl (by exact (bI_t (by omega)).symm)
  · subst h9
    refine lv_iload_n hx hb dX5_isUnder_0 rfl (lv_at hl 0 rfl) ?_
    refine lv_istore_n (lv' := [(2, .int (nI 3)), (0, .int (nI 3)), (1, .int (nI t))]) hx hb dX5_isUnder_1 rfl hl (by decide) rfl (fun ls hl => ?_)
    refine lv_iconst (v := nI 0) hx hb dX5_isUnder_2 (by decide) ?_
    refine lv_istore_n (lv' := [(3, .int (nI 0)), (2, .int (nI 3)), (0, .int (nI 3)), (1, .int (nI t))]) hx hb dX5_isUnder_3 rfl hl (by decide) rfl (fun ls hl => ?_)
    refine lv_iload_n hx hb dX5_isUnder_4 rfl (lv_at hl 0 rfl) ?_
    refine lv_bipush (v := nI 7) hx hb dX5_isUnder_5 (by decide) ?_
    refine lv_icmp_ge (tgt := 39) hx hb dX5_isUnder_7 (by decide) (fun c7_22 => ?_) (fun c7_22 => ?_)
    · have c7_22 : 7 ≤ 0 := (nI_leI (a := 7) (b := 0) (by omega) (by omega)).mp c7_22
      exact absurd c7_22 (by omega)
    · have c7_22 : ¬ (7 ≤ 0) := fun h9 => c7_22 ((nI_leI (a := 7) (b := 0) (by omega) (by omega)).mpr h9)
      refine lv_iload_n hx hb dX5_isUnder_10 rfl (lv_at hl 1 rfl) ?_
      refine lv_iconst (v := nI 0) hx hb dX5_isUnder_11 (by decide) ?_
      refine lv_bipush (v := nI 6) hx hb dX5_isUnder_12 (by decide) ?_
      refine zcsE (va_runS (As := [.int (nI 3), .int (nI 0), .int (nI 6)]) (rest := []) ⟨hx, hb, hml, hown, hts⟩ (d_X5_isOutside l D cI cJ (nI 3) (nI 0) (nI 6) 0 6 (by decide) (by decide) s.heap.size) (va_cwS 3 hts gX5_isUnder_X5_isOutside rfl rfl rfl (by decide +kernel) ⟨Nat.le_of_ble_eq_true rfl, Nat.le_of_ble_eq_true rfl⟩) (zpS hK hN hZ hP hD hS hA [] rfl (by decide)) rfl rfl hl.1 rfl (lv_room (Nat.le_of_ble_eq_true rfl)) dX5_isUnder_14 ⟨Nat.zero_le _, Nat.zero_le _⟩) ?_
      refine lv_if_ne (tgt := 39) hx hb dX5_isUnder_17 (by decide) (fun c17_23 => ?_) (fun c17_23 => ?_)
      · have c17_23 := bI_nn0.mp c17_23
        exact absurd (show zrg 0 6 (nI 3) by decide) c17_23
      · have c17_23 := bI_nX0.mp c17_23
        refine lv_iload_n hx hb dX5_isUnder_20 rfl (lv_at hl 1 rfl) ?_
        refine lv_iload_n hx hb dX5_isUnder_21 rfl (lv_at hl 3 rfl) ?_
        refine lv_icmp_ne (tgt := 27) hx hb dX5_isUnder_22 (by decide) (fun c22_24 => ?_) (fun c22_24 => ?_)
        · have c22_24 : ¬ (3 = t) := fun h9 => c22_24 ((nI_eq (a := 3) (b := t) (by omega) (by omega)).mpr h9)
          obtain ⟨t_KIND_ABOVE, hz1a, hz1b⟩ := hZ.1
          refine va_gets hx hb hz1a hS hown (hts (.fieldLink RX5 270 "UpAllRound" "KIND_ABOVE" "[I") (List.mem_of_getElem? (i := 1) rfl)) (fun _ h9 => h9) dX5_isUnder_27 ?_
          refine lv_iload_n hx hb dX5_isUnder_30 rfl (lv_at hl 1 rfl) ?_
          refine zsti (t := 3) hx hb hz1b hS (by omega) dX5_isUnder_31 ?_
          refine zrw (show zKA 3 = nI 0 from rfl) ?_
          refine lv_istore_n (lv' := [(2, .int (nI 0)), (3, .int (nI 0)), (0, .int (nI 3)), (1, .int (nI t))]) hx hb dX5_isUnder_32 rfl hl (by decide) rfl (fun ls hl => ?_)
          refine lv_iinc (v := nI (0 + 1)) (lv' := [(3, .int (nI (0 + 1))), (2, .int (nI 0)), (0, .int (nI 3)), (1, .int (nI t))]) hx hb dX5_isUnder_33 hl (k := 1) rfl (nI_add _ _) (by decide) rfl (fun ls hl => ?_)
          refine lv_goto (tgt := 4) hx hb dX5_isUnder_36 (by decide) ?_
          refine lv_iload_n hx hb dX5_isUnder_4 rfl (lv_at hl 0 rfl) ?_
          refine lv_bipush (v := nI 7) hx hb dX5_isUnder_5 (by decide) ?_
          refine lv_icmp_ge (tgt := 39) hx hb dX5_isUnder_7 (by decide) (fun c7_25 => ?_) (fun c7_25 => ?_)
          · have c7_25 : 7 ≤ (0 + 1) := (nI_leI (a := 7) (b := 0 + 1) (by omega) (by omega)).mp c7_25
            exact absurd c7_25 (by omega)
          · have c7_25 : ¬ (7 ≤ (0 + 1)) := fun h9 => c7_25 ((nI_leI (a := 7) (b := 0 + 1) (by omega) (by omega)).mpr h9)
            refine lv_iload_n hx hb dX5_isUnder_10 rfl (lv_at hl 1 rfl) ?_
            refine lv_iconst (v := nI 0) hx hb dX5_isUnder_11 (by decide) ?_
            refine lv_bipush (v := nI 6) hx hb dX5_isUnder_12 (by decide) ?_
            refine zcsE (va_runS (As := [.int (nI 0), .int (nI 0), .int (nI 6)]) (rest := []) ⟨hx, hb, hml, hown, hts⟩ (d_X5_isOutside l D cI cJ (nI 0) (nI 0) (nI 6) 0 6 (by decide) (by decide) s.heap.size) (va_cwS 3 hts gX5_isUnder_X5_isOutside rfl rfl rfl (by decide +kernel) ⟨Nat.le_of_ble_eq_true rfl, Nat.le_of_ble_eq_true rfl⟩) (zpS hK hN hZ hP hD hS hA [] rfl (by decide)) rfl rfl hl.1 rfl (lv_room (Nat.le_of_ble_eq_true rfl)) dX5_isUnder_14 ⟨Nat.zero_le _, Nat.zero_le _⟩) ?_
            refine lv_if_ne (tgt := 39) hx hb dX5_isUnder_17 (by decide) (fun c17_26 => ?_) (fun c17_26 => ?_)
            · have c17_26 := bI_nn0.mp c17_26
              exact absurd (show zrg 0 6 (nI 0) by decide) c17_26
            · have c17_26 := bI_nX0.mp c17_26
              refine lv_iload_n hx hb dX5_isUnder_20 rfl (lv_at hl 1 rfl) ?_
              refine lv_iload_n hx hb dX5_isUnder_21 rfl (lv_at hl 3 rfl) ?_
              refine lv_icmp_ne (tgt := 27) hx hb dX5_isUnder_22 (by decide) (fun c22_27 => ?_) (fun c22_27 => ?_)
              · have c22_27 : ¬ (0 = t) := fun h9 => c22_27 ((nI_eq (a := 0) (b := t) (by omega) (by omega)).mpr h9)
                obtain ⟨t_KIND_ABOVE, hz1a, hz1b⟩ := hZ.1
                refine va_gets hx hb hz1a hS hown (hts (.fieldLink RX5 270 "UpAllRound" "KIND_ABOVE" "[I") (List.mem_of_getElem? (i := 1) rfl)) (fun _ h9 => h9) dX5_isUnder_27 ?_
                refine lv_iload_n hx hb dX5_isUnder_30 rfl (lv_at hl 1 rfl) ?_
                refine zsti (t := 0) hx hb hz1b hS (by omega) dX5_isUnder_31 ?_
                refine zrw (show zKA 0 = -1 from rfl) ?_
                refine lv_istore_n (lv' := [(2, .int ((-1))), (3, .int (nI (0 + 1))), (0, .int (nI 3)), (1, .int (nI t))]) hx hb dX5_isUnder_32 rfl hl (by decide) rfl (fun ls hl => ?_)
                refine lv_iinc (v := nI (0 + 1 + 1)) (lv' := [(3, .int (nI (0 + 1 + 1))), (2, .int ((-1))), (0, .int (nI 3)), (1, .int (nI t))]) hx hb dX5_isUnder_33 hl (k := 1) rfl (nI_add _ _) (by decide) rfl (fun ls hl => ?_)
                refine lv_goto (tgt := 4) hx hb dX5_isUnder_36 (by decide) ?_
                refine lv_iload_n hx hb dX5_isUnder_4 rfl (lv_at hl 0 rfl) ?_
                refine lv_bipush (v := nI 7) hx hb dX5_isUnder_5 (by decide) ?_
                refine lv_icmp_ge (tgt := 39) hx hb dX5_isUnder_7 (by decide) (fun c7_28 => ?_) (fun c7_28 => ?_)
                · have c7_28 : 7 ≤ (0 + 1 + 1) := (nI_leI (a := 7) (b := 0 + 1 + 1) (by omega) (by omega)).mp c7_28
                  exact absurd c7_28 (by omega)
                · have c7_28 : ¬ (7 ≤ (0 + 1 + 1)) := fun h9 => c7_28 ((nI_leI (a := 7) (b := 0 + 1 + 1) (by omega) (by omega)).mpr h9)
                  refine lv_iload_n hx hb dX5_isUnder_10 rfl (lv_at hl 1 rfl) ?_
                  refine lv_iconst (v := nI 0) hx hb dX5_isUnder_11 (by decide) ?_
                  refine lv_bipush (v := nI 6) hx hb dX5_isUnder_12 (by decide) ?_
                  refine zcsE (va_runS (As := [.int ((-1)), .int (nI 0), .int (nI 6)]) (rest := []) ⟨hx, hb, hml, hown, hts⟩ (d_X5_isOutside l D cI cJ ((-1)) (nI 0) (nI 6) 0 6 (by decide) (by decide) s.heap.size) (va_cwS 3 hts gX5_isUnder_X5_isOutside rfl rfl rfl (by decide +kernel) ⟨Nat.le_of_ble_eq_true rfl, Nat.le_of_ble_eq_true rfl⟩) (zpS hK hN hZ hP hD hS hA [] rfl (by decide)) rfl rfl hl.1 rfl (lv_room (Nat.le_of_ble_eq_true rfl)) dX5_isUnder_14 ⟨Nat.zero_le _, Nat.zero_le _⟩) ?_
                  refine lv_if_ne (tgt := 39) hx hb dX5_isUnder_17 (by decide) (fun c17_29 => ?_) (fun c17_29 => ?_)
                  · have c17_29 := bI_nn0.mp c17_29
                    refine lv_iconst (v := nI 0) hx hb dX5_isUnder_39 (by decide) ?_
                    exact hret dX5_isUnder_40 rfl (by exact (bI_f (by omega)).symm)
                  · have c17_29 := bI_nX0.mp c17_29
                    exact absurd c17_29 (show ¬ zrg 0 6 (-1) by decide)
              · have c22_27 : 0 = t := (nI_eq (a := 0) (b := t) (by omega) (by omega)).mp c22_27
                refine lv_iconst (v := nI 1) hx hb dX5_isUnder_25 (by decide) ?_
                exact hret dX5_isUnder_26 rfl (by exact (bI_t (by omega)).symm)
        · have c22_24 : 3 = t := (nI_eq (a := 3) (b := t) (by omega) (by omega)).mp c22_24
          refine lv_iconst (v := nI 1) hx hb dX5_isUnder_25 (by decide) ?_
          exact hret dX5_isUnder_26 rfl (by exact (bI_t (by omega)).symm)
  · subst h9
    refine lv_iload_n hx hb dX5_isUnder_0 rfl (lv_at hl 0 rfl) ?_
    refine lv_istore_n (lv' := [(2, .int (nI 4)), (0, .int (nI 4)), (1, .int (nI t))]) hx hb dX5_isUnder_1 rfl hl (by decide) rfl (fun ls hl => ?_)
    refine lv_iconst (v := nI 0) hx hb dX5_isUnder_2 (by decide) ?_
    refine lv_istore_n (lv' := [(3, .int (nI 0)), (2, .int (nI 4)), (0, .int (nI 4)), (1, .int (nI t))]) hx hb dX5_isUnder_3 rfl hl (by decide) rfl (fun ls hl => ?_)
    refine lv_iload_n hx hb dX5_isUnder_4 rfl (lv_at hl 0 rfl) ?_
    refine lv_bipush (v := nI 7) hx hb dX5_isUnder_5 (by decide) ?_
    refine lv_icmp_ge (tgt := 39) hx hb dX5_isUnder_7 (by decide) (fun c7_30 => ?_) (fun c7_30 => ?_)
    · have c7_30 : 7 ≤ 0 := (nI_leI (a := 7) (b := 0) (by omega) (by omega)).mp c7_30
      exact absurd c7_30 (by omega)
    · have c7_30 : ¬ (7 ≤ 0) := fun h9 => c7_30 ((nI_leI (a := 7) (b := 0) (by omega) (by omega)).mpr h9)
      refine lv_iload_n hx hb dX5_isUnder_10 rfl (lv_at hl 1 rfl) ?_
      refine lv_iconst (v := nI 0) hx hb dX5_isUnder_11 (by decide) ?_
      refine lv_bipush (v := nI 6) hx hb dX5_isUnder_12 (by decide) ?_
      refine zcsE (va_runS (As := [.int (nI 4), .int (nI 0), .int (nI 6)]) (rest := []) ⟨hx, hb, hml, hown, hts⟩ (d_X5_isOutside l D cI cJ (nI 4) (nI 0) (nI 6) 0 6 (by decide) (by decide) s.heap.size) (va_cwS 3 hts gX5_isUnder_X5_isOutside rfl rfl rfl (by decide +kernel) ⟨Nat.le_of_ble_eq_true rfl, Nat.le_of_ble_eq_true rfl⟩) (zpS hK hN hZ hP hD hS hA [] rfl (by decide)) rfl rfl hl.1 rfl (lv_room (Nat.le_of_ble_eq_true rfl)) dX5_isUnder_14 ⟨Nat.zero_le _, Nat.zero_le _⟩) ?_
      refine lv_if_ne (tgt := 39) hx hb dX5_isUnder_17 (by decide) (fun c17_31 => ?_) (fun c17_31 => ?_)
      · have c17_31 := bI_nn0.mp c17_31
        exact absurd (show zrg 0 6 (nI 4) by decide) c17_31
      · have c17_31 := bI_nX0.mp c17_31
        refine lv_iload_n hx hb dX5_isUnder_20 rfl (lv_at hl 1 rfl) ?_
        refine lv_iload_n hx hb dX5_isUnder_21 rfl (lv_at hl 3 rfl) ?_
        refine lv_icmp_ne (tgt := 27) hx hb dX5_isUnder_22 (by decide) (fun c22_32 => ?_) (fun c22_32 => ?_)
        · have c22_32 : ¬ (4 = t) := fun h9 => c22_32 ((nI_eq (a := 4) (b := t) (by omega) (by omega)).mpr h9)
          obtain ⟨t_KIND_ABOVE, hz1a, hz1b⟩ := hZ.1
          refine va_gets hx hb hz1a hS hown (hts (.fieldLink RX5 270 "UpAllRound" "KIND_ABOVE" "[I") (List.mem_of_getElem? (i := 1) rfl)) (fun _ h9 => h9) dX5_isUnder_27 ?_
          refine lv_iload_n hx hb dX5_isUnder_30 rfl (lv_at hl 1 rfl) ?_
          refine zsti (t := 4) hx hb hz1b hS (by omega) dX5_isUnder_31 ?_
          refine zrw (show zKA 4 = nI 1 from rfl) ?_
          refine lv_istore_n (lv' := [(2, .int (nI 1)), (3, .int (nI 0)), (0, .int (nI 4)), (1, .int (nI t))]) hx hb dX5_isUnder_32 rfl hl (by decide) rfl (fun ls hl => ?_)
          refine lv_iinc (v := nI (0 + 1)) (lv' := [(3, .int (nI (0 + 1))), (2, .int (nI 1)), (0, .int (nI 4)), (1, .int (nI t))]) hx hb dX5_isUnder_33 hl (k := 1) rfl (nI_add _ _) (by decide) rfl (fun ls hl => ?_)
          refine lv_goto (tgt := 4) hx hb dX5_isUnder_36 (by decide) ?_
          refine lv_iload_n hx hb dX5_isUnder_4 rfl (lv_at hl 0 rfl) ?_
          refine lv_bipush (v := nI 7) hx hb dX5_isUnder_5 (by decide) ?_
          refine lv_icmp_ge (tgt := 39) hx hb dX5_isUnder_7 (by decide) (fun c7_33 => ?_) (fun c7_33 => ?_)
          · have c7_33 : 7 ≤ (0 + 1) := (nI_leI (a := 7) (b := 0 + 1) (by omega) (by omega)).mp c7_33
            exact absurd c7_33 (by omega)
          · have c7_33 : ¬ (7 ≤ (0 + 1)) := fun h9 => c7_33 ((nI_leI (a := 7) (b := 0 + 1) (by omega) (by omega)).mpr h9)
            refine lv_iload_n hx hb dX5_isUnder_10 rfl (lv_at hl 1 rfl) ?_
            refine lv_iconst (v := nI 0) hx hb dX5_isUnder_11 (by decide) ?_
            refine lv_bipush (v := nI 6) hx hb dX5_isUnder_12 (by decide) ?_
            refine zcsE (va_runS (As := [.int (nI 1), .int (nI 0), .int (nI 6)]) (rest := []) ⟨hx, hb, hml, hown, hts⟩ (d_X5_isOutside l D cI cJ (nI 1) (nI 0) (nI 6) 0 6 (by decide) (by decide) s.heap.size) (va_cwS 3 hts gX5_isUnder_X5_isOutside rfl rfl rfl (by decide +kernel) ⟨Nat.le_of_ble_eq_true rfl, Nat.le_of_ble_eq_true rfl⟩) (zpS hK hN hZ hP hD hS hA [] rfl (by decide)) rfl rfl hl.1 rfl (lv_room (Nat.le_of_ble_eq_true rfl)) dX5_isUnder_14 ⟨Nat.zero_le _, Nat.zero_le _⟩) ?_
            refine lv_if_ne (tgt := 39) hx hb dX5_isUnder_17 (by decide) (fun c17_34 => ?_) (fun c17_34 => ?_)
            · have c17_34 := bI_nn0.mp c17_34
              exact absurd (show zrg 0 6 (nI 1) by decide) c17_34
            · have c17_34 := bI_nX0.mp c17_34
              refine lv_iload_n hx hb dX5_isUnder_20 rfl (lv_at hl 1 rfl) ?_
              refine lv_iload_n hx hb dX5_isUnder_21 rfl (lv_at hl 3 rfl) ?_
              refine lv_icmp_ne (tgt := 27) hx hb dX5_isUnder_22 (by decide) (fun c22_35 => ?_) (fun c22_35 => ?_)
              · have c22_35 : ¬ (1 = t) := fun h9 => c22_35 ((nI_eq (a := 1) (b := t) (by omega) (by omega)).mpr h9)
                obtain ⟨t_KIND_ABOVE, hz1a, hz1b⟩ := hZ.1
                refine va_gets hx hb hz1a hS hown (hts (.fieldLink RX5 270 "UpAllRound" "KIND_ABOVE" "[I") (List.mem_of_getElem? (i := 1) rfl)) (fun _ h9 => h9) dX5_isUnder_27 ?_
                refine lv_iload_n hx hb dX5_isUnder_30 rfl (lv_at hl 1 rfl) ?_
                refine zsti (t := 1) hx hb hz1b hS (by omega) dX5_isUnder_31 ?_
                refine zrw (show zKA 1 = nI 0 from rfl) ?_
                refine lv_istore_n (lv' := [(2, .int (nI 0)), (3, .int (nI (0 + 1))), (0, .int (nI 4)), (1, .int (nI t))]) hx hb dX5_isUnder_32 rfl hl (by decide) rfl (fun ls hl => ?_)
                refine lv_iinc (v := nI (0 + 1 + 1)) (lv' := [(3, .int (nI (0 + 1 + 1))), (2, .int (nI 0)), (0, .int (nI 4)), (1, .int (nI t))]) hx hb dX5_isUnder_33 hl (k := 1) rfl (nI_add _ _) (by decide) rfl (fun ls hl => ?_)
                refine lv_goto (tgt := 4) hx hb dX5_isUnder_36 (by decide) ?_
                refine lv_iload_n hx hb dX5_isUnder_4 rfl (lv_at hl 0 rfl) ?_
                refine lv_bipush (v := nI 7) hx hb dX5_isUnder_5 (by decide) ?_
                refine lv_icmp_ge (tgt := 39) hx hb dX5_isUnder_7 (by decide) (fun c7_36 => ?_) (fun c7_36 => ?_)
                · have c7_36 : 7 ≤ (0 + 1 + 1) := (nI_leI (a := 7) (b := 0 + 1 + 1) (by omega) (by omega)).mp c7_36
                  exact absurd c7_36 (by omega)
                · have c7_36 : ¬ (7 ≤ (0 + 1 + 1)) := fun h9 => c7_36 ((nI_leI (a := 7) (b := 0 + 1 + 1) (by omega) (by omega)).mpr h9)
                  refine lv_iload_n hx hb dX5_isUnder_10 rfl (lv_at hl 1 rfl) ?_
                  refine lv_iconst (v := nI 0) hx hb dX5_isUnder_11 (by decide) ?_
                  refine lv_bipush (v := nI 6) hx hb dX5_isUnder_12 (by decide) ?_
                  refine zcsE (va_runS (As := [.int (nI 0), .int (nI 0), .int (nI 6)]) (rest := []) ⟨hx, hb, hml, hown, hts⟩ (d_X5_isOutside l D cI cJ (nI 0) (nI 0) (nI 6) 0 6 (by decide) (by decide) s.heap.size) (va_cwS 3 hts gX5_isUnder_X5_isOutside rfl rfl rfl (by decide +kernel) ⟨Nat.le_of_ble_eq_true rfl, Nat.le_of_ble_eq_true rfl⟩) (zpS hK hN hZ hP hD hS hA [] rfl (by decide)) rfl rfl hl.1 rfl (lv_room (Nat.le_of_ble_eq_true rfl)) dX5_isUnder_14 ⟨Nat.zero_le _, Nat.zero_le _⟩) ?_
                  refine lv_if_ne (tgt := 39) hx hb dX5_isUnder_17 (by decide) (fun c17_37 => ?_) (fun c17_37 => ?_)
                  · have c17_37 := bI_nn0.mp c17_37
                    exact absurd (show zrg 0 6 (nI 0) by decide) c17_37
                  · have c17_37 := bI_nX0.mp c17_37
                    refine lv_iload_n hx hb dX5_isUnder_20 rfl (lv_at hl 1 rfl) ?_
                    refine lv_iload_n hx hb dX5_isUnder_21 rfl (lv_at hl 3 rfl) ?_
                    refine lv_icmp_ne (tgt := 27) hx hb dX5_isUnder_22 (by decide) (fun c22_38 => ?_) (fun c22_38 => ?_)
                    · have c22_38 : ¬ (0 = t) := fun h9 => c22_38 ((nI_eq (a := 0) (b := t) (by omega) (by omega)).mpr h9)
                      obtain ⟨t_KIND_ABOVE, hz1a, hz1b⟩ := hZ.1
                      refine va_gets hx hb hz1a hS hown (hts (.fieldLink RX5 270 "UpAllRound" "KIND_ABOVE" "[I") (List.mem_of_getElem? (i := 1) rfl)) (fun _ h9 => h9) dX5_isUnder_27 ?_
                      refine lv_iload_n hx hb dX5_isUnder_30 rfl (lv_at hl 1 rfl) ?_
                      refine zsti (t := 0) hx hb hz1b hS (by omega) dX5_isUnder_31 ?_
                      refine zrw (show zKA 0 = -1 from rfl) ?_
                      refine lv_istore_n (lv' := [(2, .int ((-1))), (3, .int (nI (0 + 1 + 1))), (0, .int (nI 4)), (1, .int (nI t))]) hx hb dX5_isUnder_32 rfl hl (by decide) rfl (fun ls hl => ?_)
                      refine lv_iinc (v := nI (0 + 1 + 1 + 1)) (lv' := [(3, .int (nI (0 + 1 + 1 + 1))), (2, .int ((-1))), (0, .int (nI 4)), (1, .int (nI t))]) hx hb dX5_isUnder_33 hl (k := 1) rfl (nI_add _ _) (by decide) rfl (fun ls hl => ?_)
                      refine lv_goto (tgt := 4) hx hb dX5_isUnder_36 (by decide) ?_
                      refine lv_iload_n hx hb dX5_isUnder_4 rfl (lv_at hl 0 rfl) ?_
                      refine lv_bipush (v := nI 7) hx hb dX5_isUnder_5 (by decide) ?_
                      refine lv_icmp_ge (tgt := 39) hx hb dX5_isUnder_7 (by decide) (fun c7_39 => ?_) (fun c7_39 => ?_)
                      · have c7_39 : 7 ≤ (0 + 1 + 1 + 1) := (nI_leI (a := 7) (b := 0 + 1 + 1 + 1) (by omega) (by omega)).mp c7_39
                        exact absurd c7_39 (by omega)
                      · have c7_39 : ¬ (7 ≤ (0 + 1 + 1 + 1)) := fun h9 => c7_39 ((nI_leI (a := 7) (b := 0 + 1 + 1 + 1) (by omega) (by omega)).mpr h9)
                        refine lv_iload_n hx hb dX5_isUnder_10 rfl (lv_at hl 1 rfl) ?_
                        refine lv_iconst (v := nI 0) hx hb dX5_isUnder_11 (by decide) ?_
                        refine lv_bipush (v := nI 6) hx hb dX5_isUnder_12 (by decide) ?_
                        refine zcsE (va_runS (As := [.int ((-1)), .int (nI 0), .int (nI 6)]) (rest := []) ⟨hx, hb, hml, hown, hts⟩ (d_X5_isOutside l D cI cJ ((-1)) (nI 0) (nI 6) 0 6 (by decide) (by decide) s.heap.size) (va_cwS 3 hts gX5_isUnder_X5_isOutside rfl rfl rfl (by decide +kernel) ⟨Nat.le_of_ble_eq_true rfl, Nat.le_of_ble_eq_true rfl⟩) (zpS hK hN hZ hP hD hS hA [] rfl (by decide)) rfl rfl hl.1 rfl (lv_room (Nat.le_of_ble_eq_true rfl)) dX5_isUnder_14 ⟨Nat.zero_le _, Nat.zero_le _⟩) ?_
                        refine lv_if_ne (tgt := 39) hx hb dX5_isUnder_17 (by decide) (fun c17_40 => ?_) (fun c17_40 => ?_)
                        · have c17_40 := bI_nn0.mp c17_40
                          refine lv_iconst (v := nI 0) hx hb dX5_isUnder_39 (by decide) ?_
                          exact hret dX5_isUnder_40 rfl (by exact (bI_f (by omega)).symm)
                        · have c17_40 := bI_nX0.mp c17_40
                          exact absurd c17_40 (show ¬ zrg 0 6 (-1) by decide)
                    · have c22_38 : 0 = t := (nI_eq (a := 0) (b := t) (by omega) (by omega)).mp c22_38
                      refine lv_iconst (v := nI 1) hx hb dX5_isUnder_25 (by decide) ?_
                      exact hret dX5_isUnder_26 rfl (by exact (bI_t (by omega)).symm)
              · have c22_35 : 1 = t := (nI_eq (a := 1) (b := t) (by omega) (by omega)).mp c22_35
                refine lv_iconst (v := nI 1) hx hb dX5_isUnder_25 (by decide) ?_
                exact hret dX5_isUnder_26 rfl (by exact (bI_t (by omega)).symm)
        · have c22_32 : 4 = t := (nI_eq (a := 4) (b := t) (by omega) (by omega)).mp c22_32
          refine lv_iconst (v := nI 1) hx hb dX5_isUnder_25 (by decide) ?_
          exact hret dX5_isUnder_26 rfl (by exact (bI_t (by omega)).symm)
  · subst h9
    refine lv_iload_n hx hb dX5_isUnder_0 rfl (lv_at hl 0 rfl) ?_
    refine lv_istore_n (lv' := [(2, .int (nI 5)), (0, .int (nI 5)), (1, .int (nI t))]) hx hb dX5_isUnder_1 rfl hl (by decide) rfl (fun ls hl => ?_)
    refine lv_iconst (v := nI 0) hx hb dX5_isUnder_2 (by decide) ?_
    refine lv_istore_n (lv' := [(3, .int (nI 0)), (2, .int (nI 5)), (0, .int (nI 5)), (1, .int (nI t))]) hx hb dX5_isUnder_3 rfl hl (by decide) rfl (fun ls hl => ?_)
    refine lv_iload_n hx hb dX5_isUnder_4 rfl (lv_at hl 0 rfl) ?_
    refine lv_bipush (v := nI 7) hx hb dX5_isUnder_5 (by decide) ?_
    refine lv_icmp_ge (tgt := 39) hx hb dX5_isUnder_7 (by decide) (fun c7_41 => ?_) (fun c7_41 => ?_)
    · have c7_41 : 7 ≤ 0 := (nI_leI (a := 7) (b := 0) (by omega) (by omega)).mp c7_41
      exact absurd c7_41 (by omega)
    · have c7_41 : ¬ (7 ≤ 0) := fun h9 => c7_41 ((nI_leI (a := 7) (b := 0) (by omega) (by omega)).mpr h9)
      refine lv_iload_n hx hb dX5_isUnder_10 rfl (lv_at hl 1 rfl) ?_
      refine lv_iconst (v := nI 0) hx hb dX5_isUnder_11 (by decide) ?_
      refine lv_bipush (v := nI 6) hx hb dX5_isUnder_12 (by decide) ?_
      refine zcsE (va_runS (As := [.int (nI 5), .int (nI 0), .int (nI 6)]) (rest := []) ⟨hx, hb, hml, hown, hts⟩ (d_X5_isOutside l D cI cJ (nI 5) (nI 0) (nI 6) 0 6 (by decide) (by decide) s.heap.size) (va_cwS 3 hts gX5_isUnder_X5_isOutside rfl rfl rfl (by decide +kernel) ⟨Nat.le_of_ble_eq_true rfl, Nat.le_of_ble_eq_true rfl⟩) (zpS hK hN hZ hP hD hS hA [] rfl (by decide)) rfl rfl hl.1 rfl (lv_room (Nat.le_of_ble_eq_true rfl)) dX5_isUnder_14 ⟨Nat.zero_le _, Nat.zero_le _⟩) ?_
      refine lv_if_ne (tgt := 39) hx hb dX5_isUnder_17 (by decide) (fun c17_42 => ?_) (fun c17_42 => ?_)
      · have c17_42 := bI_nn0.mp c17_42
        exact absurd (show zrg 0 6 (nI 5) by decide) c17_42
      · have c17_42 := bI_nX0.mp c17_42
        refine lv_iload_n hx hb dX5_isUnder_20 rfl (lv_at hl 1 rfl) ?_
        refine lv_iload_n hx hb dX5_isUnder_21 rfl (lv_at hl 3 rfl) ?_
        refine lv_icmp_ne (tgt := 27) hx hb dX5_isUnder_22 (by decide) (fun c22_43 => ?_) (fun c22_43 => ?_)
        · have c22_43 : ¬ (5 = t) := fun h9 => c22_43 ((nI_eq (a := 5) (b := t) (by omega) (by omega)).mpr h9)
          obtain ⟨t_KIND_ABOVE, hz1a, hz1b⟩ := hZ.1
          refine va_gets hx hb hz1a hS hown (hts (.fieldLink RX5 270 "UpAllRound" "KIND_ABOVE" "[I") (List.mem_of_getElem? (i := 1) rfl)) (fun _ h9 => h9) dX5_isUnder_27 ?_
          refine lv_iload_n hx hb dX5_isUnder_30 rfl (lv_at hl 1 rfl) ?_
          refine zsti (t := 5) hx hb hz1b hS (by omega) dX5_isUnder_31 ?_
          refine zrw (show zKA 5 = nI 2 from rfl) ?_
          refine lv_istore_n (lv' := [(2, .int (nI 2)), (3, .int (nI 0)), (0, .int (nI 5)), (1, .int (nI t))]) hx hb dX5_isUnder_32 rfl hl (by decide) rfl (fun ls hl => ?_)
          refine lv_iinc (v := nI (0 + 1)) (lv' := [(3, .int (nI (0 + 1))), (2, .int (nI 2)), (0, .int (nI 5)), (1, .int (nI t))]) hx hb dX5_isUnder_33 hl (k := 1) rfl (nI_add _ _) (by decide) rfl (fun ls hl => ?_)
          refine lv_goto (tgt := 4) hx hb dX5_isUnder_36 (by decide) ?_
          refine lv_iload_n hx hb dX5_isUnder_4 rfl (lv_at hl 0 rfl) ?_
          refine lv_bipush (v := nI 7) hx hb dX5_isUnder_5 (by decide) ?_
          refine lv_icmp_ge (tgt := 39) hx hb dX5_isUnder_7 (by decide) (fun c7_44 => ?_) (fun c7_44 => ?_)
          · have c7_44 : 7 ≤ (0 + 1) := (nI_leI (a := 7) (b := 0 + 1) (by omega) (by omega)).mp c7_44
            exact absurd c7_44 (by omega)
          · have c7_44 : ¬ (7 ≤ (0 + 1)) := fun h9 => c7_44 ((nI_leI (a := 7) (b := 0 + 1) (by omega) (by omega)).mpr h9)
            refine lv_iload_n hx hb dX5_isUnder_10 rfl (lv_at hl 1 rfl) ?_
            refine lv_iconst (v := nI 0) hx hb dX5_isUnder_11 (by decide) ?_
            refine lv_bipush (v := nI 6) hx hb dX5_isUnder_12 (by decide) ?_
            refine zcsE (va_runS (As := [.int (nI 2), .int (nI 0), .int (nI 6)]) (rest := []) ⟨hx, hb, hml, hown, hts⟩ (d_X5_isOutside l D cI cJ (nI 2) (nI 0) (nI 6) 0 6 (by decide) (by decide) s.heap.size) (va_cwS 3 hts gX5_isUnder_X5_isOutside rfl rfl rfl (by decide +kernel) ⟨Nat.le_of_ble_eq_true rfl, Nat.le_of_ble_eq_true rfl⟩) (zpS hK hN hZ hP hD hS hA [] rfl (by decide)) rfl rfl hl.1 rfl (lv_room (Nat.le_of_ble_eq_true rfl)) dX5_isUnder_14 ⟨Nat.zero_le _, Nat.zero_le _⟩) ?_
            refine lv_if_ne (tgt := 39) hx hb dX5_isUnder_17 (by decide) (fun c17_45 => ?_) (fun c17_45 => ?_)
            · have c17_45 := bI_nn0.mp c17_45
              exact absurd (show zrg 0 6 (nI 2) by decide) c17_45
            · have c17_45 := bI_nX0.mp c17_45
              refine lv_iload_n hx hb dX5_isUnder_20 rfl (lv_at hl 1 rfl) ?_
              refine lv_iload_n hx hb dX5_isUnder_21 rfl (lv_at hl 3 rfl) ?_
              refine lv_icmp_ne (tgt := 27) hx hb dX5_isUnder_22 (by decide) (fun c22_46 => ?_) (fun c22_46 => ?_)
              · have c22_46 : ¬ (2 = t) := fun h9 => c22_46 ((nI_eq (a := 2) (b := t) (by omega) (by omega)).mpr h9)
                obtain ⟨t_KIND_ABOVE, hz1a, hz1b⟩ := hZ.1
                refine va_gets hx hb hz1a hS hown (hts (.fieldLink RX5 270 "UpAllRound" "KIND_ABOVE" "[I") (List.mem_of_getElem? (i := 1) rfl)) (fun _ h9 => h9) dX5_isUnder_27 ?_
                refine lv_iload_n hx hb dX5_isUnder_30 rfl (lv_at hl 1 rfl) ?_
                refine zsti (t := 2) hx hb hz1b hS (by omega) dX5_isUnder_31 ?_
                refine zrw (show zKA 2 = nI 0 from rfl) ?_
                refine lv_istore_n (lv' := [(2, .int (nI 0)), (3, .int (nI (0 + 1))), (0, .int (nI 5)), (1, .int (nI t))]) hx hb dX5_isUnder_32 rfl hl (by decide) rfl (fun ls hl => ?_)
                refine lv_iinc (v := nI (0 + 1 + 1)) (lv' := [(3, .int (nI (0 + 1 + 1))), (2, .int (nI 0)), (0, .int (nI 5)), (1, .int (nI t))]) hx hb dX5_isUnder_33 hl (k := 1) rfl (nI_add _ _) (by decide) rfl (fun ls hl => ?_)
                refine lv_goto (tgt := 4) hx hb dX5_isUnder_36 (by decide) ?_
                refine lv_iload_n hx hb dX5_isUnder_4 rfl (lv_at hl 0 rfl) ?_
                refine lv_bipush (v := nI 7) hx hb dX5_isUnder_5 (by decide) ?_
                refine lv_icmp_ge (tgt := 39) hx hb dX5_isUnder_7 (by decide) (fun c7_47 => ?_) (fun c7_47 => ?_)
                · have c7_47 : 7 ≤ (0 + 1 + 1) := (nI_leI (a := 7) (b := 0 + 1 + 1) (by omega) (by omega)).mp c7_47
                  exact absurd c7_47 (by omega)
                · have c7_47 : ¬ (7 ≤ (0 + 1 + 1)) := fun h9 => c7_47 ((nI_leI (a := 7) (b := 0 + 1 + 1) (by omega) (by omega)).mpr h9)
                  refine lv_iload_n hx hb dX5_isUnder_10 rfl (lv_at hl 1 rfl) ?_
                  refine lv_iconst (v := nI 0) hx hb dX5_isUnder_11 (by decide) ?_
                  refine lv_bipush (v := nI 6) hx hb dX5_isUnder_12 (by decide) ?_
                  refine zcsE (va_runS (As := [.int (nI 0), .int (nI 0), .int (nI 6)]) (rest := []) ⟨hx, hb, hml, hown, hts⟩ (d_X5_isOutside l D cI cJ (nI 0) (nI 0) (nI 6) 0 6 (by decide) (by decide) s.heap.size) (va_cwS 3 hts gX5_isUnder_X5_isOutside rfl rfl rfl (by decide +kernel) ⟨Nat.le_of_ble_eq_true rfl, Nat.le_of_ble_eq_true rfl⟩) (zpS hK hN hZ hP hD hS hA [] rfl (by decide)) rfl rfl hl.1 rfl (lv_room (Nat.le_of_ble_eq_true rfl)) dX5_isUnder_14 ⟨Nat.zero_le _, Nat.zero_le _⟩) ?_
                  refine lv_if_ne (tgt := 39) hx hb dX5_isUnder_17 (by decide) (fun c17_48 => ?_) (fun c17_48 => ?_)
                  · have c17_48 := bI_nn0.mp c17_48
                    exact absurd (show zrg 0 6 (nI 0) by decide) c17_48
                  · have c17_48 := bI_nX0.mp c17_48
                    refine lv_iload_n hx hb dX5_isUnder_20 rfl (lv_at hl 1 rfl) ?_
                    refine lv_iload_n hx hb dX5_isUnder_21 rfl (lv_at hl 3 rfl) ?_
                    refine lv_icmp_ne (tgt := 27) hx hb dX5_isUnder_22 (by decide) (fun c22_49 => ?_) (fun c22_49 => ?_)
                    · have c22_49 : ¬ (0 = t) := fun h9 => c22_49 ((nI_eq (a := 0) (b := t) (by omega) (by omega)).mpr h9)
                      obtain ⟨t_KIND_ABOVE, hz1a, hz1b⟩ := hZ.1
                      refine va_gets hx hb hz1a hS hown (hts (.fieldLink RX5 270 "UpAllRound" "KIND_ABOVE" "[I") (List.mem_of_getElem? (i := 1) rfl)) (fun _ h9 => h9) dX5_isUnder_27 ?_
                      refine lv_iload_n hx hb dX5_isUnder_30 rfl (lv_at hl 1 rfl) ?_
                      refine zsti (t := 0) hx hb hz1b hS (by omega) dX5_isUnder_31 ?_
                      refine zrw (show zKA 0 = -1 from rfl) ?_
                      refine lv_istore_n (lv' := [(2, .int ((-1))), (3, .int (nI (0 + 1 + 1))), (0, .int (nI 5)), (1, .int (nI t))]) hx hb dX5_isUnder_32 rfl hl (by decide) rfl (fun ls hl => ?_)
                      refine lv_iinc (v := nI (0 + 1 + 1 + 1)) (lv' := [(3, .int (nI (0 + 1 + 1 + 1))), (2, .int ((-1))), (0, .int (nI 5)), (1, .int (nI t))]) hx hb dX5_isUnder_33 hl (k := 1) rfl (nI_add _ _) (by decide) rfl (fun ls hl => ?_)
                      refine lv_goto (tgt := 4) hx hb dX5_isUnder_36 (by decide) ?_
                      refine lv_iload_n hx hb dX5_isUnder_4 rfl (lv_at hl 0 rfl) ?_
                      refine lv_bipush (v := nI 7) hx hb dX5_isUnder_5 (by decide) ?_
                      refine lv_icmp_ge (tgt := 39) hx hb dX5_isUnder_7 (by decide) (fun c7_50 => ?_) (fun c7_50 => ?_)
                      · have c7_50 : 7 ≤ (0 + 1 + 1 + 1) := (nI_leI (a := 7) (b := 0 + 1 + 1 + 1) (by omega) (by omega)).mp c7_50
                        exact absurd c7_50 (by omega)
                      · have c7_50 : ¬ (7 ≤ (0 + 1 + 1 + 1)) := fun h9 => c7_50 ((nI_leI (a := 7) (b := 0 + 1 + 1 + 1) (by omega) (by omega)).mpr h9)
                        refine lv_iload_n hx hb dX5_isUnder_10 rfl (lv_at hl 1 rfl) ?_
                        refine lv_iconst (v := nI 0) hx hb dX5_isUnder_11 (by decide) ?_
                        refine lv_bipush (v := nI 6) hx hb dX5_isUnder_12 (by decide) ?_
                        refine zcsE (va_runS (As := [.int ((-1)), .int (nI 0), .int (nI 6)]) (rest := []) ⟨hx, hb, hml, hown, hts⟩ (d_X5_isOutside l D cI cJ ((-1)) (nI 0) (nI 6) 0 6 (by decide) (by decide) s.heap.size) (va_cwS 3 hts gX5_isUnder_X5_isOutside rfl rfl rfl (by decide +kernel) ⟨Nat.le_of_ble_eq_true rfl, Nat.le_of_ble_eq_true rfl⟩) (zpS hK hN hZ hP hD hS hA [] rfl (by decide)) rfl rfl hl.1 rfl (lv_room (Nat.le_of_ble_eq_true rfl)) dX5_isUnder_14 ⟨Nat.zero_le _, Nat.zero_le _⟩) ?_
                        refine lv_if_ne (tgt := 39) hx hb dX5_isUnder_17 (by decide) (fun c17_51 => ?_) (fun c17_51 => ?_)
                        · have c17_51 := bI_nn0.mp c17_51
                          refine lv_iconst (v := nI 0) hx hb dX5_isUnder_39 (by decide) ?_
                          exact hret dX5_isUnder_40 rfl (by exact (bI_f (by omega)).symm)
                        · have c17_51 := bI_nX0.mp c17_51
                          exact absurd c17_51 (show ¬ zrg 0 6 (-1) by decide)
                    · have c22_49 : 0 = t := (nI_eq (a := 0) (b := t) (by omega) (by omega)).mp c22_49
                      refine lv_iconst (v := nI 1) hx hb dX5_isUnder_25 (by decide) ?_
                      exact hret dX5_isUnder_26 rfl (by exact (bI_t (by omega)).symm)
              · have c22_46 : 2 = t := (nI_eq (a := 2) (b := t) (by omega) (by omega)).mp c22_46
                refine lv_iconst (v := nI 1) hx hb dX5_isUnder_25 (by decide) ?_
                exact hret dX5_isUnder_26 rfl (by exact (bI_t (by omega)).symm)
        · have c22_43 : 5 = t := (nI_eq (a := 5) (b := t) (by omega) (by omega)).mp c22_43
          refine lv_iconst (v := nI 1) hx hb dX5_isUnder_25 (by decide) ?_
          exact hret dX5_isUnder_26 rfl (by exact (bI_t (by omega)).symm)
  · subst h9
    refine lv_iload_n hx hb dX5_isUnder_0 rfl (lv_at hl 0 rfl) ?_
    refine lv_istore_n (lv' := [(2, .int (nI 6)), (0, .int (nI 6)), (1, .int (nI t))]) hx hb dX5_isUnder_1 rfl hl (by decide) rfl (fun ls hl => ?_)
    refine lv_iconst (v := nI 0) hx hb dX5_isUnder_2 (by decide) ?_
    refine lv_istore_n (lv' := [(3, .int (nI 0)), (2, .int (nI 6)), (0, .int (nI 6)), (1, .int (nI t))]) hx hb dX5_isUnder_3 rfl hl (by decide) rfl (fun ls hl => ?_)
    refine lv_iload_n hx hb dX5_isUnder_4 rfl (lv_at hl 0 rfl) ?_
    refine lv_bipush (v := nI 7) hx hb dX5_isUnder_5 (by decide) ?_
    refine lv_icmp_ge (tgt := 39) hx hb dX5_isUnder_7 (by decide) (fun c7_52 => ?_) (fun c7_52 => ?_)
    · have c7_52 : 7 ≤ 0 := (nI_leI (a := 7) (b := 0) (by omega) (by omega)).mp c7_52
      exact absurd c7_52 (by omega)
    · have c7_52 : ¬ (7 ≤ 0) := fun h9 => c7_52 ((nI_leI (a := 7) (b := 0) (by omega) (by omega)).mpr h9)
      refine lv_iload_n hx hb dX5_isUnder_10 rfl (lv_at hl 1 rfl) ?_
      refine lv_iconst (v := nI 0) hx hb dX5_isUnder_11 (by decide) ?_
      refine lv_bipush (v := nI 6) hx hb dX5_isUnder_12 (by decide) ?_
      refine zcsE (va_runS (As := [.int (nI 6), .int (nI 0), .int (nI 6)]) (rest := []) ⟨hx, hb, hml, hown, hts⟩ (d_X5_isOutside l D cI cJ (nI 6) (nI 0) (nI 6) 0 6 (by decide) (by decide) s.heap.size) (va_cwS 3 hts gX5_isUnder_X5_isOutside rfl rfl rfl (by decide +kernel) ⟨Nat.le_of_ble_eq_true rfl, Nat.le_of_ble_eq_true rfl⟩) (zpS hK hN hZ hP hD hS hA [] rfl (by decide)) rfl rfl hl.1 rfl (lv_room (Nat.le_of_ble_eq_true rfl)) dX5_isUnder_14 ⟨Nat.zero_le _, Nat.zero_le _⟩) ?_
      refine lv_if_ne (tgt := 39) hx hb dX5_isUnder_17 (by decide) (fun c17_53 => ?_) (fun c17_53 => ?_)
      · have c17_53 := bI_nn0.mp c17_53
        exact absurd (show zrg 0 6 (nI 6) by decide) c17_53
      · have c17_53 := bI_nX0.mp c17_53
        refine lv_iload_n hx hb dX5_isUnder_20 rfl (lv_at hl 1 rfl) ?_
        refine lv_iload_n hx hb dX5_isUnder_21 rfl (lv_at hl 3 rfl) ?_
        refine lv_icmp_ne (tgt := 27) hx hb dX5_isUnder_22 (by decide) (fun c22_54 => ?_) (fun c22_54 => ?_)
        · have c22_54 : ¬ (6 = t) := fun h9 => c22_54 ((nI_eq (a := 6) (b := t) (by omega) (by omega)).mpr h9)
          obtain ⟨t_KIND_ABOVE, hz1a, hz1b⟩ := hZ.1
          refine va_gets hx hb hz1a hS hown (hts (.fieldLink RX5 270 "UpAllRound" "KIND_ABOVE" "[I") (List.mem_of_getElem? (i := 1) rfl)) (fun _ h9 => h9) dX5_isUnder_27 ?_
          refine lv_iload_n hx hb dX5_isUnder_30 rfl (lv_at hl 1 rfl) ?_
          refine zsti (t := 6) hx hb hz1b hS (by omega) dX5_isUnder_31 ?_
          refine zrw (show zKA 6 = nI 0 from rfl) ?_
          refine lv_istore_n (lv' := [(2, .int (nI 0)), (3, .int (nI 0)), (0, .int (nI 6)), (1, .int (nI t))]) hx hb dX5_isUnder_32 rfl hl (by decide) rfl (fun ls hl => ?_)
          refine lv_iinc (v := nI (0 + 1)) (lv' := [(3, .int (nI (0 + 1))), (2, .int (nI 0)), (0, .int (nI 6)), (1, .int (nI t))]) hx hb dX5_isUnder_33 hl (k := 1) rfl (nI_add _ _) (by decide) rfl (fun ls hl => ?_)
          refine lv_goto (tgt := 4) hx hb dX5_isUnder_36 (by decide) ?_
          refine lv_iload_n hx hb dX5_isUnder_4 rfl (lv_at hl 0 rfl) ?_
          refine lv_bipush (v := nI 7) hx hb dX5_isUnder_5 (by decide) ?_
          refine lv_icmp_ge (tgt := 39) hx hb dX5_isUnder_7 (by decide) (fun c7_55 => ?_) (fun c7_55 => ?_)
          · have c7_55 : 7 ≤ (0 + 1) := (nI_leI (a := 7) (b := 0 + 1) (by omega) (by omega)).mp c7_55
            exact absurd c7_55 (by omega)
          · have c7_55 : ¬ (7 ≤ (0 + 1)) := fun h9 => c7_55 ((nI_leI (a := 7) (b := 0 + 1) (by omega) (by omega)).mpr h9)
            refine lv_iload_n hx hb dX5_isUnder_10 rfl (lv_at hl 1 rfl) ?_
            refine lv_iconst (v := nI 0) hx hb dX5_isUnder_11 (by decide) ?_
            refine lv_bipush (v := nI 6) hx hb dX5_isUnder_12 (by decide) ?_
            refine zcsE (va_runS (As := [.int (nI 0), .int (nI 0), .int (nI 6)]) (rest := []) ⟨hx, hb, hml, hown, hts⟩ (d_X5_isOutside l D cI cJ (nI 0) (nI 0) (nI 6) 0 6 (by decide) (by decide) s.heap.size) (va_cwS 3 hts gX5_isUnder_X5_isOutside rfl rfl rfl (by decide +kernel) ⟨Nat.le_of_ble_eq_true rfl, Nat.le_of_ble_eq_true rfl⟩) (zpS hK hN hZ hP hD hS hA [] rfl (by decide)) rfl rfl hl.1 rfl (lv_room (Nat.le_of_ble_eq_true rfl)) dX5_isUnder_14 ⟨Nat.zero_le _, Nat.zero_le _⟩) ?_
            refine lv_if_ne (tgt := 39) hx hb dX5_isUnder_17 (by decide) (fun c17_56 => ?_) (fun c17_56 => ?_)
            · have c17_56 := bI_nn0.mp c17_56
              exact absurd (show zrg 0 6 (nI 0) by decide) c17_56
            · have c17_56 := bI_nX0.mp c17_56
              refine lv_iload_n hx hb dX5_isUnder_20 rfl (lv_at hl 1 rfl) ?_
              refine lv_iload_n hx hb dX5_isUnder_21 rfl (lv_at hl 3 rfl) ?_
              refine lv_icmp_ne (tgt := 27) hx hb dX5_isUnder_22 (by decide) (fun c22_57 => ?_) (fun c22_57 => ?_)
              · have c22_57 : ¬ (0 = t) := fun h9 => c22_57 ((nI_eq (a := 0) (b := t) (by omega) (by omega)).mpr h9)
                obtain ⟨t_KIND_ABOVE, hz1a, hz1b⟩ := hZ.1
                refine va_gets hx hb hz1a hS hown (hts (.fieldLink RX5 270 "UpAllRound" "KIND_ABOVE" "[I") (List.mem_of_getElem? (i := 1) rfl)) (fun _ h9 => h9) dX5_isUnder_27 ?_
                refine lv_iload_n hx hb dX5_isUnder_30 rfl (lv_at hl 1 rfl) ?_
                refine zsti (t := 0) hx hb hz1b hS (by omega) dX5_isUnder_31 ?_
                refine zrw (show zKA 0 = -1 from rfl) ?_
                refine lv_istore_n (lv' := [(2, .int ((-1))), (3, .int (nI (0 + 1))), (0, .int (nI 6)), (1, .int (nI t))]) hx hb dX5_isUnder_32 rfl hl (by decide) rfl (fun ls hl => ?_)
                refine lv_iinc (v := nI (0 + 1 + 1)) (lv' := [(3, .int (nI (0 + 1 + 1))), (2, .int ((-1))), (0, .int (nI 6)), (1, .int (nI t))]) hx hb dX5_isUnder_33 hl (k := 1) rfl (nI_add _ _) (by decide) rfl (fun ls hl => ?_)
                refine lv_goto (tgt := 4) hx hb dX5_isUnder_36 (by decide) ?_
                refine lv_iload_n hx hb dX5_isUnder_4 rfl (lv_at hl 0 rfl) ?_
                refine lv_bipush (v := nI 7) hx hb dX5_isUnder_5 (by decide) ?_
                refine lv_icmp_ge (tgt := 39) hx hb dX5_isUnder_7 (by decide) (fun c7_58 => ?_) (fun c7_58 => ?_)
                · have c7_58 : 7 ≤ (0 + 1 + 1) := (nI_leI (a := 7) (b := 0 + 1 + 1) (by omega) (by omega)).mp c7_58
                  exact absurd c7_58 (by omega)
                · have c7_58 : ¬ (7 ≤ (0 + 1 + 1)) := fun h9 => c7_58 ((nI_leI (a := 7) (b := 0 + 1 + 1) (by omega) (by omega)).mpr h9)
                  refine lv_iload_n hx hb dX5_isUnder_10 rfl (lv_at hl 1 rfl) ?_
                  refine lv_iconst (v := nI 0) hx hb dX5_isUnder_11 (by decide) ?_
                  refine lv_bipush (v := nI 6) hx hb dX5_isUnder_12 (by decide) ?_
                  refine zcsE (va_runS (As := [.int ((-1)), .int (nI 0), .int (nI 6)]) (rest := []) ⟨hx, hb, hml, hown, hts⟩ (d_X5_isOutside l D cI cJ ((-1)) (nI 0) (nI 6) 0 6 (by decide) (by decide) s.heap.size) (va_cwS 3 hts gX5_isUnder_X5_isOutside rfl rfl rfl (by decide +kernel) ⟨Nat.le_of_ble_eq_true rfl, Nat.le_of_ble_eq_true rfl⟩) (zpS hK hN hZ hP hD hS hA [] rfl (by decide)) rfl rfl hl.1 rfl (lv_room (Nat.le_of_ble_eq_true rfl)) dX5_isUnder_14 ⟨Nat.zero_le _, Nat.zero_le _⟩) ?_
                  refine lv_if_ne (tgt := 39) hx hb dX5_isUnder_17 (by decide) (fun c17_59 => ?_) (fun c17_59 => ?_)
                  · have c17_59 := bI_nn0.mp c17_59
                    refine lv_iconst (v := nI 0) hx hb dX5_isUnder_39 (by decide) ?_
                    exact hret dX5_isUnder_40 rfl (by exact (bI_f (by omega)).symm)
                  · have c17_59 := bI_nX0.mp c17_59
                    exact absurd c17_59 (show ¬ zrg 0 6 (-1) by decide)
              · have c22_57 : 0 = t := (nI_eq (a := 0) (b := t) (by omega) (by omega)).mp c22_57
                refine lv_iconst (v := nI 1) hx hb dX5_isUnder_25 (by decide) ?_
                exact hret dX5_isUnder_26 rfl (by exact (bI_t (by omega)).symm)
        · have c22_54 : 6 = t := (nI_eq (a := 6) (b := t) (by omega) (by omega)).mp c22_54
          refine lv_iconst (v := nI 1) hx hb dX5_isUnder_25 (by decide) ?_
          exact hret dX5_isUnder_26 rfl (by exact (bI_t (by omega)).symm)
set_option maxHeartbeats 4000000 in
set_option maxRecDepth 100000 in
theorem c_X6_above (l : Launch) (D : va_G) (cI cJ : ClassId) (kd : Nat) (hkd7 : kd < 7) : zSi l yX6_above wsX6_above ({ frames := 0, cells := 0, slots := 0, locals := 0 } : Room) D [(cI, .int), (cJ, .array .int)] [.int (nI kd)] [] (fun r => r = nI ((if kd = 4 then 1 else if kd = 5 then 2 else 0))) := by
  refine zSi.start (cc := cX6_above) (maxL := 1) (rt := .int) (by first | decide | decide +kernel) rfl (Nat.le_of_ble_eq_true rfl) ?_
  intro pg ev s mt args below meth cd ls AA QQ ⟨hx, hb, hml, hr, hlocks, hown, hts, hK, hN, hZ, hP, hD, hA, hS, hl⟩ hret
  have hown : s.vm.findClass RX6 = some mt.cls := hown
  have hl : lv_has ls 1 [(0, .int (nI kd))] := hl
  refine lv_iload_n hx hb dX6_above_0 rfl (lv_at hl 0 rfl) ?_
  refine lv_iconst (v := nI 4) hx hb dX6_above_1 (by decide) ?_
  refine lv_icmp_ne (tgt := 9) hx hb dX6_above_2 (by decide) (fun c2_1 => ?_) (fun c2_1 => ?_)
  · have c2_1 : ¬ (kd = 4) := fun h9 => c2_1 ((nI_eq (a := kd) (b := 4) (by omega) (by omega)).mpr h9)
    refine lv_iload_n hx hb dX6_above_9 rfl (lv_at hl 0 rfl) ?_
    refine lv_iconst (v := nI 5) hx hb dX6_above_10 (by decide) ?_
    refine lv_icmp_ne (tgt := 18) hx hb dX6_above_11 (by decide) (fun c11_2 => ?_) (fun c11_2 => ?_)
    · have c11_2 : ¬ (kd = 5) := fun h9 => c11_2 ((nI_eq (a := kd) (b := 5) (by omega) (by omega)).mpr h9)
      refine lv_iconst (v := nI 0) hx hb dX6_above_18 (by decide) ?_
      exact hret dX6_above_19 rfl (by rw [if_neg (by omega), if_neg (by omega)])
    · have c11_2 : kd = 5 := (nI_eq (a := kd) (b := 5) (by omega) (by omega)).mp c11_2
      refine lv_iconst (v := nI 2) hx hb dX6_above_14 (by decide) ?_
      refine lv_goto (tgt := 19) hx hb dX6_above_15 (by decide) ?_
      exact hret dX6_above_19 rfl (by rw [if_neg (by omega), if_pos (by omega)])
  · have c2_1 : kd = 4 := (nI_eq (a := kd) (b := 4) (by omega) (by omega)).mp c2_1
    refine lv_iconst (v := nI 1) hx hb dX6_above_5 (by decide) ?_
    refine lv_goto (tgt := 19) hx hb dX6_above_6 (by decide) ?_
    exact hret dX6_above_19 rfl (by rw [if_pos (by omega)])
def zo_as (S E : Nat → Int32) (n k : Nat) (climber : Int32) (kind : Int32) : zOut := if zin climber k ∧ zrg 0 6 kind then (if bI9 (S (8 + 4 * climber.toNatClampNeg + 0)).toNatClampNeg kind.toNatClampNeg = 1 then (S (8 + 4 * climber.toNatClampNeg + 1), S, E) else zerrE 5 S E) else zerrE 1 S E
set_option maxHeartbeats 4000000 in
set_option maxRecDepth 100000 in
theorem c_X6_as (l : Launch) (D : va_G) (cI cJ : ClassId) (h : Nat) (hs : Nat) (hE : Nat) (fs : List Value) (S : Nat → Int32) (E : Nat → Int32) (n : Nat) (k : Nat) (climber : Int32) (kind : Int32) (hf0 : fs[0]? = some (.ref hs)) (hf4 : fs[4]? = some (.ref hE)) (hn1 : S 1 = nI n) (hk6 : S 6 = nI k) (hn4 : 4 ≤ n) (hn14 : n ≤ 14) (hkle : k ≤ 6) (hcl : ∀ c, c < k → ∃ kd : Nat, S (8 + 4 * c + 0) = nI kd ∧ kd < 7) : zMi l yX6_as wsX6_as ({ frames := 2, cells := 0, slots := 0, locals := 43 } : Room) D [(cI, .int), (cJ, .array .int)] [.ref h, .int climber, .int kind] [(h, .inr (6, fs)), (hs, .inl (cI, 380, .inl S)), (hE, .inl (cI, 7, .inl E))] (fun r w => r = (zo_as S E n k climber kind).1 ∧ w = [(h, .inr (6, fs)), (hs, .inl (cI, 380, .inl ((zo_as S E n k climber kind).2.1))), (hE, .inl (cI, 7, .inl ((zo_as S E n k climber kind).2.2)))]) := by
  refine zMi.start (cc := cX6_as) (maxL := 4) (rt := .int) (by first | decide | decide +kernel) rfl (Nat.le_of_ble_eq_true rfl) ?_
  intro pg ev s mt args below meth cd ls AA QQ ⟨hx, hb, hml, hr, hlocks, hown, hts, hK, hN, hZ, hP, hD, hA, hS, hl⟩ hret
  have hown : s.vm.findClass RX6 = some mt.cls := hown
  have hl : lv_has ls 4 [(0, .ref h), (1, .int climber), (2, .int kind)] := hl
  have hin6 : ∀ w ∈ wsX60, w ∈ wsX6_as := fun w h => List.mem_cons_of_mem _ (List.mem_append_right _ (h))
  refine lv_aload_n hx hb dX6_as_0 rfl (lv_at hl 0 rfl) ?_
  refine lv_iload_n hx hb dX6_as_1 rfl (lv_at hl 1 rfl) ?_
  refine zcsE (va_runV (As := [.int climber]) (rest := []) ⟨hx, hb, hml, hown, hts⟩ (c_X6_isClimber l D cI cJ h hs fs S k climber (by first | rfl | assumption | omega) (by first | rfl | assumption | omega) (by first | rfl | assumption | omega) s.heap.size) (cwV 1 hts gX6_as_X6_isClimber rfl rfl rfl (by decide +kernel) ⟨Nat.le_of_ble_eq_true rfl, Nat.le_of_ble_eq_true rfl⟩) (zpV hK hN hZ hP hD hS hA [0, 1] rfl (by decide) 0 rfl rfl rfl) rfl rfl hl.1 rfl (lv_room (Nat.le_of_ble_eq_true rfl)) dX6_as_2 ⟨Nat.zero_le _, Nat.zero_le _⟩) ?_
  refine lv_if_eq (tgt := 18) hx hb dX6_as_5 (by decide) (fun c5_1 => ?_) (fun c5_1 => ?_)
  · have c5_1 := bI_0.mp c5_1
    refine lv_aload_n hx hb dX6_as_18 rfl (lv_at hl 0 rfl) ?_
    refine lv_iconst (v := nI 1) hx hb dX6_as_19 (by decide) ?_
    refine zci (wr := [(hs, .inl (cI, 380, .inl S))]) (va_runV (As := [.int (nI 1)]) (rest := []) ⟨hx, hb, hml, hown, hts⟩ (c_X6_error l D cI cJ h hE fs E 1 (by first | rfl | assumption | omega) (by first | rfl | assumption | omega) s.heap.size) (cwV 1 hts gX6_as_X6_error rfl rfl rfl (by decide +kernel) ⟨Nat.le_of_ble_eq_true rfl, Nat.le_of_ble_eq_true rfl⟩) (zpV hK hN hZ hP hD hS hA [0, 2] rfl (by decide) 0 rfl rfl rfl) rfl rfl hl.1 rfl (lv_room (Nat.le_of_ble_eq_true rfl)) dX6_as_20 ⟨Nat.zero_le _, Nat.zero_le _⟩) hP hD hS hA [0, 2] [1] rfl rfl (by decide) (by decide) (fun r_4 w_3 H locs h_2 hP hD hS => ?_)
    obtain ⟨rfl, rfl⟩ := h_2
    have hP : va_P D vwCl [(hs, .inl (cI, 380, .inl S)), (h, .inr (6, fs)), (hE, .inl (cI, 7, .inl (upd E 1 (E 1 + nI 1))))] H := hP
    have hD : va_D AA [(hs, .inl (cI, 380, .inl S)), (h, .inr (6, fs)), (hE, .inl (cI, 7, .inl (upd E 1 (E 1 + nI 1))))] := hD
    have hP := hP.sub (ws' := [(h, .inr (6, fs)), (hs, .inl (cI, 380, .inl S)), (hE, .inl (cI, 7, .inl (upd E 1 (E 1 + nI 1))))]) [1, 0, 2] rfl
    have hD := hD.sub (ws' := [(h, .inr (6, fs)), (hs, .inl (cI, 380, .inl S)), (hE, .inl (cI, 7, .inl (upd E 1 (E 1 + nI 1))))]) [1, 0, 2] (by decide) rfl
    exact hret hP hD hS dX6_as_23 rfl (by rw [show zo_as S E n k climber kind = zerrE 1 S E from by rw [zo_as, if_neg (by intro h9; first | exact absurd h9.1 (by assumption) | exact absurd h9.2 (by assumption))] <;> rfl]; exact ⟨rfl, rfl⟩)
  · have c5_1 := bI_n0.mp c5_1
    obtain ⟨j, h_j, rfl⟩ := zin_of c5_1 (by omega)
    refine lv_iload_n hx hb dX6_as_8 rfl (lv_at hl 2 rfl) ?_
    refine lv_iconst (v := nI 0) hx hb dX6_as_9 (by decide) ?_
    refine lv_bipush (v := nI 6) hx hb dX6_as_10 (by decide) ?_
    refine zcsE (va_runS (As := [.int kind, .int (nI 0), .int (nI 6)]) (rest := []) ⟨hx, hb, hml, hown, hts⟩ (d_X6_in l D cI cJ kind (nI 0) (nI 6) 0 6 (by decide) (by decide) s.heap.size) (va_cwS 3 hts gX6_as_X6_in rfl rfl rfl (by decide +kernel) ⟨Nat.le_of_ble_eq_true rfl, Nat.le_of_ble_eq_true rfl⟩) (zpS hK hN hZ hP hD hS hA [] rfl (by decide)) rfl rfl hl.1 rfl (lv_room (Nat.le_of_ble_eq_true rfl)) dX6_as_12 ⟨Nat.zero_le _, Nat.zero_le _⟩) ?_
    refine lv_if_ne (tgt := 24) hx hb dX6_as_15 (by decide) (fun c15_5 => ?_) (fun c15_5 => ?_)
    · have c15_5 := bI_n0.mp c15_5
      obtain ⟨q, h_q, rfl⟩ : ∃ q : Nat, q ≤ 6 ∧ kind = nI q := zrg_of c15_5 (by decide)
      obtain ⟨kd, hkd, hkd7⟩ := hcl j (by omega)
      refine lv_aload_n hx hb dX6_as_24 rfl (lv_at hl 0 rfl) ?_
      refine lv_iload_n hx hb dX6_as_25 rfl (lv_at hl 1 rfl) ?_
      refine lv_iconst (v := nI 0) hx hb dX6_as_26 (by decide) ?_
      refine zcsE (va_runV (As := [.int (nI j), .int (nI 0)]) (rest := []) ⟨hx, hb, hml, hown, hts⟩ (c_X6_its l D cI cJ h hs fs S j 0 (by first | rfl | assumption | omega) (by first | rfl | assumption | omega) s.heap.size) (cwV 2 hts gX6_as_X6_its rfl rfl rfl (by decide +kernel) ⟨Nat.le_of_ble_eq_true rfl, Nat.le_of_ble_eq_true rfl⟩) (zpV hK hN hZ hP hD hS hA [0, 1] rfl (by decide) 0 rfl rfl rfl) rfl rfl hl.1 rfl (lv_room (Nat.le_of_ble_eq_true rfl)) dX6_as_27 ⟨Nat.zero_le _, Nat.zero_le _⟩) ?_
      refine zrw hkd ?_
      rcases (show kd = 0 ∨ kd = 1 ∨ kd = 2 ∨ kd = 3 ∨ kd = 4 ∨ kd = 5 ∨ kd = 6 from by omega) with h9 | h9 | h9 | h9 | h9 | h9 | h9
      · subst h9
        refine lv_istore_n (lv' := [(3, .int (nI 0)), (0, .ref h), (1, .int (nI j)), (2, .int (nI q))]) hx hb dX6_as_30 rfl hl (by decide) rfl (fun ls hl => ?_)
        refine lv_iload_n hx hb dX6_as_31 rfl (lv_at hl 0 rfl) ?_
        refine lv_iload_n hx hb dX6_as_32 rfl (lv_at hl 3 rfl) ?_
        refine lv_icmp_eq (tgt := 48) hx hb dX6_as_33 (by decide) (fun c33_6 => ?_) (fun c33_6 => ?_)
        · have c33_6 : 0 = q := (nI_eq (a := 0) (b := q) (by omega) (by omega)).mp c33_6
          refine lv_iload_n hx hb dX6_as_48 rfl (lv_at hl 0 rfl) ?_
          refine lv_iload_n hx hb dX6_as_49 rfl (lv_at hl 3 rfl) ?_
          refine lv_icmp_ne (tgt := 62) hx hb dX6_as_50 (by decide) (fun c50_7 => ?_) (fun c50_7 => ?_)
          · have c50_7 : ¬ (0 = q) := fun h9 => c50_7 ((nI_eq (a := 0) (b := q) (by omega) (by omega)).mpr h9)
            refine lv_aload_n hx hb dX6_as_62 rfl (lv_at hl 1 rfl) ?_
            refine lv_iconst (v := nI 5) hx hb dX6_as_63 (by decide) ?_
            refine zci (wr := [(hs, .inl (cI, 380, .inl S))]) (va_runV (As := [.int (nI 5)]) (rest := []) ⟨hx, hb, hml, hown, hts⟩ (c_X6_error l D cI cJ h hE fs E 5 (by first | rfl | assumption | omega) (by first | rfl | assumption | omega) s.heap.size) (cwV 1 hts gX6_as_X6_error rfl rfl rfl (by decide +kernel) ⟨Nat.le_of_ble_eq_true rfl, Nat.le_of_ble_eq_true rfl⟩) (zpV hK hN hZ hP hD hS hA [0, 2] rfl (by decide) 0 rfl rfl rfl) rfl rfl hl.1 rfl (lv_room (Nat.le_of_ble_eq_true rfl)) dX6_as_64 ⟨Nat.zero_le _, Nat.zero_le _⟩) hP hD hS hA [0, 2] [1] rfl rfl (by decide) (by decide) (fun r_10 w_9 H locs h_8 hP hD hS => ?_)
            obtain ⟨rfl, rfl⟩ := h_8
            have hP : va_P D vwCl [(hs, .inl (cI, 380, .inl S)), (h, .inr (6, fs)), (hE, .inl (cI, 7, .inl (upd E 5 (E 5 + nI 1))))] H := hP
            have hD : va_D AA [(hs, .inl (cI, 380, .inl S)), (h, .inr (6, fs)), (hE, .inl (cI, 7, .inl (upd E 5 (E 5 + nI 1))))] := hD
            have hP := hP.sub (ws' := [(h, .inr (6, fs)), (hs, .inl (cI, 380, .inl S)), (hE, .inl (cI, 7, .inl (upd E 5 (E 5 + nI 1))))]) [1, 0, 2] rfl
            have hD := hD.sub (ws' := [(h, .inr (6, fs)), (hs, .inl (cI, 380, .inl S)), (hE, .inl (cI, 7, .inl (upd E 5 (E 5 + nI 1))))]) [1, 0, 2] (by decide) rfl
            exact hret hP hD hS dX6_as_67 rfl (by rw [show zo_as S E n k (nI j) (nI q) = zerrE 5 S E from by rw [zo_as, if_pos ⟨by assumption, by assumption⟩, nI_clamp (show j < 2147483648 by omega), hkd, nI_clamp (show 0 < 2147483648 by omega), nI_clamp (show q < 2147483648 by omega), if_neg (by rw [bI9, bI_f (by omega)]; decide)] <;> rfl]; exact ⟨rfl, rfl⟩)
          · have c50_7 : 0 = q := (nI_eq (a := 0) (b := q) (by omega) (by omega)).mp c50_7
            refine lv_aload_n hx hb dX6_as_53 rfl (lv_at hl 1 rfl) ?_
            refine lv_iload_n hx hb dX6_as_54 rfl (lv_at hl 2 rfl) ?_
            refine lv_iconst (v := nI 1) hx hb dX6_as_55 (by decide) ?_
            refine zcsE (va_runV (As := [.int (nI j), .int (nI 1)]) (rest := []) ⟨hx, hb, hml, hown, hts⟩ (c_X6_its l D cI cJ h hs fs S j 1 (by first | rfl | assumption | omega) (by first | rfl | assumption | omega) s.heap.size) (cwV 2 hts gX6_as_X6_its rfl rfl rfl (by decide +kernel) ⟨Nat.le_of_ble_eq_true rfl, Nat.le_of_ble_eq_true rfl⟩) (zpV hK hN hZ hP hD hS hA [0, 1] rfl (by decide) 0 rfl rfl rfl) rfl rfl hl.1 rfl (lv_room (Nat.le_of_ble_eq_true rfl)) dX6_as_56 ⟨Nat.zero_le _, Nat.zero_le _⟩) ?_
            refine lv_goto (tgt := 67) hx hb dX6_as_59 (by decide) ?_
            exact hret hP hD hS dX6_as_67 rfl (by rw [show zo_as S E n k (nI j) (nI q) = (S (8 + 4 * j + 1), S, E) from by rw [zo_as, if_pos ⟨by assumption, by assumption⟩, nI_clamp (show j < 2147483648 by omega), hkd, nI_clamp (show 0 < 2147483648 by omega), nI_clamp (show q < 2147483648 by omega), if_pos (bI_t (by omega))] <;> rfl]; exact ⟨rfl, rfl⟩)
        · have c33_6 : ¬ (0 = q) := fun h9 => c33_6 ((nI_eq (a := 0) (b := q) (by omega) (by omega)).mpr h9)
          refine lv_iload_n hx hb dX6_as_36 rfl (lv_at hl 0 rfl) ?_
          refine lv_if_eq (tgt := 48) hx hb dX6_as_37 (by decide) (fun c37_11 => ?_) (fun c37_11 => ?_)
          · have c37_11 : 0 = 0 := (nI_eq (a := 0) (b := 0) (by omega) (by omega)).mp c37_11
            refine lv_iload_n hx hb dX6_as_48 rfl (lv_at hl 0 rfl) ?_
            refine lv_iload_n hx hb dX6_as_49 rfl (lv_at hl 3 rfl) ?_
            refine lv_icmp_ne (tgt := 62) hx hb dX6_as_50 (by decide) (fun c50_12 => ?_) (fun c50_12 => ?_)
            · have c50_12 : ¬ (0 = q) := fun h9 => c50_12 ((nI_eq (a := 0) (b := q) (by omega) (by omega)).mpr h9)
              refine lv_aload_n hx hb dX6_as_62 rfl (lv_at hl 1 rfl) ?_
              refine lv_iconst (v := nI 5) hx hb dX6_as_63 (by decide) ?_
              refine zci (wr := [(hs, .inl (cI, 380, .inl S))]) (va_runV (As := [.int (nI 5)]) (rest := []) ⟨hx, hb, hml, hown, hts⟩ (c_X6_error l D cI cJ h hE fs E 5 (by first | rfl | assumption | omega) (by first | rfl | assumption | omega) s.heap.size) (cwV 1 hts gX6_as_X6_error rfl rfl rfl (by decide +kernel) ⟨Nat.le_of_ble_eq_true rfl, Nat.le_of_ble_eq_true rfl⟩) (zpV hK hN hZ hP hD hS hA [0, 2] rfl (by decide) 0 rfl rfl rfl) rfl rfl hl.1 rfl (lv_room (Nat.le_of_ble_eq_true rfl)) dX6_as_64 ⟨Nat.zero_le _, Nat.zero_le _⟩) hP hD hS hA [0, 2] [1] rfl rfl (by decide) (by decide) (fun r_15 w_14 H locs h_13 hP hD hS => ?_)
              obtain ⟨rfl, rfl⟩ := h_13
              have hP : va_P D vwCl [(hs, .inl (cI, 380, .inl S)), (h, .inr (6, fs)), (hE, .inl (cI, 7, .inl (upd E 5 (E 5 + nI 1))))] H := hP
              have hD : va_D AA [(hs, .inl (cI, 380, .inl S)), (h, .inr (6, fs)), (hE, .inl (cI, 7, .inl (upd E 5 (E 5 + nI 1))))] := hD
              have hP := hP.sub (ws' := [(h, .inr (6, fs)), (hs, .inl (cI, 380, .inl S)), (hE, .inl (cI, 7, .inl (upd E 5 (E 5 + nI 1))))]) [1, 0, 2] rfl
              have hD := hD.sub (ws' := [(h, .inr (6, fs)), (hs, .inl (cI, 380, .inl S)), (hE, .inl (cI, 7, .inl (upd E 5 (E 5 + nI 1))))]) [1, 0, 2] (by decide) rfl
              exact hret hP hD hS dX6_as_67 rfl (by rw [show zo_as S E n k (nI j) (nI q) = zerrE 5 S E from by rw [zo_as, if_pos ⟨by assumption, by assumption⟩, nI_clamp (show j < 2147483648 by omega), hkd, nI_clamp (show 0 < 2147483648 by omega), nI_clamp (show q < 2147483648 by omega), if_neg (by rw [bI9, bI_f (by omega)]; decide)] <;> rfl]; exact ⟨rfl, rfl⟩)
            · have c50_12 : 0 = q := (nI_eq (a := 0) (b := q) (by omega) (by omega)).mp c50_12
              refine lv_aload_n hx hb dX6_as_53 rfl (lv_at hl 1 rfl) ?_
              refine lv_iload_n hx hb dX6_as_54 rfl (lv_at hl 2 rfl) ?_
              refine lv_iconst (v := nI 1) hx hb dX6_as_55 (by decide) ?_
              refine zcsE (va_runV (As := [.int (nI j), .int (nI 1)]) (rest := []) ⟨hx, hb, hml, hown, hts⟩ (c_X6_its l D cI cJ h hs fs S j 1 (by first | rfl | assumption | omega) (by first | rfl | assumption | omega) s.heap.size) (cwV 2 hts gX6_as_X6_its rfl rfl rfl (by decide +kernel) ⟨Nat.le_of_ble_eq_true rfl, Nat.le_of_ble_eq_true rfl⟩) (zpV hK hN hZ hP hD hS hA [0, 1] rfl (by decide) 0 rfl rfl rfl) rfl rfl hl.1 rfl (lv_room (Nat.le_of_ble_eq_true rfl)) dX6_as_56 ⟨Nat.zero_le _, Nat.zero_le _⟩) ?_
              refine lv_goto (tgt := 67) hx hb dX6_as_59 (by decide) ?_
              exact hret hP hD hS dX6_as_67 rfl (by rw [show zo_as S E n k (nI j) (nI q) = (S (8 + 4 * j + 1), S, E) from by rw [zo_as, if_pos ⟨by assumption, by assumption⟩, nI_clamp (show j < 2147483648 by omega), hkd, nI_clamp (show 0 < 2147483648 by omega), nI_clamp (show q < 2147483648 by omega), if_pos (bI_t (by omega))] <;> rfl]; exact ⟨rfl, rfl⟩)
          · have c37_11 : ¬ (0 = 0) := fun h9 => c37_11 ((nI_eq (a := 0) (b := 0) (by omega) (by omega)).mpr h9)
            exact absurd c37_11 (by omega)
      · subst h9
        refine lv_istore_n (lv' := [(3, .int (nI 1)), (0, .ref h), (1, .int (nI j)), (2, .int (nI q))]) hx hb dX6_as_30 rfl hl (by decide) rfl (fun ls hl => ?_)
        refine lv_iload_n hx hb dX6_as_31 rfl (lv_at hl 0 rfl) ?_
        refine lv_iload_n hx hb dX6_as_32 rfl (lv_at hl 3 rfl) ?_
        refine lv_icmp_eq (tgt := 48) hx hb dX6_as_33 (by decide) (fun c33_16 => ?_) (fun c33_16 => ?_)
        · have c33_16 : 1 = q := (nI_eq (a := 1) (b := q) (by omega) (by omega)).mp c33_16
          refine lv_iload_n hx hb dX6_as_48 rfl (lv_at hl 0 rfl) ?_
          refine lv_iload_n hx hb dX6_as_49 rfl (lv_at hl 3 rfl) ?_
          refine lv_icmp_ne (tgt := 62) hx hb dX6_as_50 (by decide) (fun c50_17 => ?_) (fun c50_17 => ?_)
          · have c50_17 : ¬ (1 = q) := fun h9 => c50_17 ((nI_eq (a := 1) (b := q) (by omega) (by omega)).mpr h9)
            refine lv_aload_n hx hb dX6_as_62 rfl (lv_at hl 1 rfl) ?_
            refine lv_iconst (v := nI 5) hx hb dX6_as_63 (by decide) ?_
            refine zci (wr := [(hs, .inl (cI, 380, .inl S))]) (va_runV (As := [.int (nI 5)]) (rest := []) ⟨hx, hb, hml, hown, hts⟩ (c_X6_error l D cI cJ h hE fs E 5 (by first | rfl | assumption | omega) (by first | rfl | assumption | omega) s.heap.size) (cwV 1 hts gX6_as_X6_error rfl rfl rfl (by decide +kernel) ⟨Nat.le_of_ble_eq_true rfl, Nat.le_of_ble_eq_true rfl⟩) (zpV hK hN hZ hP hD hS hA [0, 2] rfl (by decide) 0 rfl rfl rfl) rfl rfl hl.1 rfl (lv_room (Nat.le_of_ble_eq_true rfl)) dX6_as_64 ⟨Nat.zero_le _, Nat.zero_le _⟩) hP hD hS hA [0, 2] [1] rfl rfl (by decide) (by decide) (fun r_20 w_19 H locs h_18 hP hD hS => ?_)
            obtain ⟨rfl, rfl⟩ := h_18
            have hP : va_P D vwCl [(hs, .inl (cI, 380, .inl S)), (h, .inr (6, fs)), (hE, .inl (cI, 7, .inl (upd E 5 (E 5 + nI 1))))] H := hP
            have hD : va_D AA [(hs, .inl (cI, 380, .inl S)), (h, .inr (6, fs)), (hE, .inl (cI, 7, .inl (upd E 5 (E 5 + nI 1))))] := hD
            have hP := hP.sub (ws' := [(h, .inr (6, fs)), (hs, .inl (cI, 380, .inl S)), (hE, .inl (cI, 7, .inl (upd E 5 (E 5 + nI 1))))]) [1, 0, 2] rfl
            have hD := hD.sub (ws' := [(h, .inr (6, fs)), (hs, .inl (cI, 380, .inl S)), (hE, .inl (cI, 7, .inl (upd E 5 (E 5 + nI 1))))]) [1, 0, 2] (by decide) rfl
            exact hret hP hD hS dX6_as_67 rfl (by rw [show zo_as S E n k (nI j) (nI q) = zerrE 5 S E from by rw [zo_as, if_pos ⟨by assumption, by assumption⟩, nI_clamp (show j < 2147483648 by omega), hkd, nI_clamp (show 1 < 2147483648 by omega), nI_clamp (show q < 2147483648 by omega), if_neg (by rw [bI9, bI_f (by omega)]; decide)] <;> rfl]; exact ⟨rfl, rfl⟩)
          · have c50_17 : 1 = q := (nI_eq (a := 1) (b := q) (by omega) (by omega)).mp c50_17
            refine lv_aload_n hx hb dX6_as_53 rfl (lv_at hl 1 rfl) ?_
            refine lv_iload_n hx hb dX6_as_54 rfl (lv_at hl 2 rfl) ?_
            refine lv_iconst (v := nI 1) hx hb dX6_as_55 (by decide) ?_
            refine zcsE (va_runV (As := [.int (nI j), .int (nI 1)]) (rest := []) ⟨hx, hb, hml, hown, hts⟩ (c_X6_its l D cI cJ h hs fs S j 1 (by first | rfl | assumption | omega) (by first | rfl | assumption | omega) s.heap.size) (cwV 2 hts gX6_as_X6_its rfl rfl rfl (by decide +kernel) ⟨Nat.le_of_ble_eq_true rfl, Nat.le_of_ble_eq_true rfl⟩) (zpV hK hN hZ hP hD hS hA [0, 1] rfl (by decide) 0 rfl rfl rfl) rfl rfl hl.1 rfl (lv_room (Nat.le_of_ble_eq_true rfl)) dX6_as_56 ⟨Nat.zero_le _, Nat.zero_le _⟩) ?_
            refine lv_goto (tgt := 67) hx hb dX6_as_59 (by decide) ?_
            exact hret hP hD hS dX6_as_67 rfl (by rw [show zo_as S E n k (nI j) (nI q) = (S (8 + 4 * j + 1), S, E) from by rw [zo_as, if_pos ⟨by assumption, by assumption⟩, nI_clamp (show j < 2147483648 by omega), hkd, nI_clamp (show 1 < 2147483648 by omega), nI_clamp (show q < 2147483648 by omega), if_pos (bI_t (by omega))] <;> rfl]; exact ⟨rfl, rfl⟩)
        · have c33_16 : ¬ (1 = q) := fun h9 => c33_16 ((nI_eq (a := 1) (b := q) (by omega) (by omega)).mpr h9)
          refine lv_iload_n hx hb dX6_as_36 rfl (lv_at hl 0 rfl) ?_
          refine lv_if_eq (tgt := 48) hx hb dX6_as_37 (by decide) (fun c37_21 => ?_) (fun c37_21 => ?_)
          · have c37_21 : 1 = 0 := (nI_eq (a := 1) (b := 0) (by omega) (by omega)).mp c37_21
            exact absurd c37_21 (by omega)
          · have c37_21 : ¬ (1 = 0) := fun h9 => c37_21 ((nI_eq (a := 1) (b := 0) (by omega) (by omega)).mpr h9)
            refine lv_iload_n hx hb dX6_as_40 rfl (lv_at hl 0 rfl) ?_
            refine zcsE (va_runS (As := [.int (nI 1)]) (rest := []) ⟨hx, hb, hml, hown, hts⟩ (c_X6_above l D cI cJ 1 (by first | rfl | assumption | omega) s.heap.size) (va_cwS 1 hts gX6_as_X6_above rfl rfl rfl (by decide +kernel) ⟨Nat.le_of_ble_eq_true rfl, Nat.le_of_ble_eq_true rfl⟩) (zpS hK hN hZ hP hD hS hA [] rfl (by decide)) rfl rfl hl.1 rfl (lv_room (Nat.le_of_ble_eq_true rfl)) dX6_as_41 ⟨Nat.zero_le _, Nat.zero_le _⟩) ?_
            refine zrw rfl ?_
            refine lv_istore_n (lv' := [(3, .int (nI 0)), (0, .ref h), (1, .int (nI j)), (2, .int (nI q))]) hx hb dX6_as_44 rfl hl (by decide) rfl (fun ls hl => ?_)
            refine lv_goto (tgt := 31) hx hb dX6_as_45 (by decide) ?_
            refine lv_iload_n hx hb dX6_as_31 rfl (lv_at hl 0 rfl) ?_
            refine lv_iload_n hx hb dX6_as_32 rfl (lv_at hl 3 rfl) ?_
            refine lv_icmp_eq (tgt := 48) hx hb dX6_as_33 (by decide) (fun c33_22 => ?_) (fun c33_22 => ?_)
            · have c33_22 : 0 = q := (nI_eq (a := 0) (b := q) (by omega) (by omega)).mp c33_22
              refine lv_iload_n hx hb dX6_as_48 rfl (lv_at hl 0 rfl) ?_
              refine lv_iload_n hx hb dX6_as_49 rfl (lv_at hl 3 rfl) ?_
              refine lv_icmp_ne (tgt := 62) hx hb dX6_as_50 (by decide) (fun c50_23 => ?_) (fun c50_23 => ?_)
              · have c50_23 : ¬ (0 = q) := fun h9 => c50_23 ((nI_eq (a := 0) (b := q) (by omega) (by omega)).mpr h9)
                refine lv_aload_n hx hb dX6_as_62 rfl (lv_at hl 1 rfl) ?_
                refine lv_iconst (v := nI 5) hx hb dX6_as_63 (by decide) ?_
                refine zci (wr := [(hs, .inl (cI, 380, .inl S))]) (va_runV (As := [.int (nI 5)]) (rest := []) ⟨hx, hb, hml, hown, hts⟩ (c_X6_error l D cI cJ h hE fs E 5 (by first | rfl | assumption | omega) (by first | rfl | assumption | omega) s.heap.size) (cwV 1 hts gX6_as_X6_error rfl rfl rfl (by decide +kernel) ⟨Nat.le_of_ble_eq_true rfl, Nat.le_of_ble_eq_true rfl⟩) (zpV hK hN hZ hP hD hS hA [0, 2] rfl (by decide) 0 rfl rfl rfl) rfl rfl hl.1 rfl (lv_room (Nat.le_of_ble_eq_true rfl)) dX6_as_64 ⟨Nat.zero_le _, Nat.zero_le _⟩) hP hD hS hA [0, 2] [1] rfl rfl (by decide) (by decide) (fun r_26 w_25 H locs h_24 hP hD hS => ?_)
                obtain ⟨rfl, rfl⟩ := h_24
                have hP : va_P D vwCl [(hs, .inl (cI, 380, .inl S)), (h, .inr (6, fs)), (hE, .inl (cI, 7, .inl (upd E 5 (E 5 + nI 1))))] H := hP
                have hD : va_D AA [(hs, .inl (cI, 380, .inl S)), (h, .inr (6, fs)), (hE, .inl (cI, 7, .inl (upd E 5 (E 5 + nI 1))))] := hD
                have hP := hP.sub (ws' := [(h, .inr (6, fs)), (hs, .inl (cI, 380, .inl S)), (hE, .inl (cI, 7, .inl (upd E 5 (E 5 + nI 1))))]) [1, 0, 2] rfl
                have hD := hD.sub (ws' := [(h, .inr (6, fs)), (hs, .inl (cI, 380, .inl S)), (hE, .inl (cI, 7, .inl (upd E 5 (E 5 + nI 1))))]) [1, 0, 2] (by decide) rfl
                exact hret hP hD hS dX6_as_67 rfl (by rw [show zo_as S E n k (nI j) (nI q) = zerrE 5 S E from by rw [zo_as, if_pos ⟨by assumption, by assumption⟩, nI_clamp (show j < 2147483648 by omega), hkd, nI_clamp (show 1 < 2147483648 by omega), nI_clamp (show q < 2147483648 by omega), if_neg (by rw [bI9, bI_f (by omega)]; decide)] <;> rfl]; exact ⟨rfl, rfl⟩)
              · have c50_23 : 0 = q := (nI_eq (a := 0) (b := q) (by omega) (by omega)).mp c50_23
                refine lv_aload_n hx hb dX6_as_53 rfl (lv_at hl 1 rfl) ?_
                refine lv_iload_n hx hb dX6_as_54 rfl (lv_at hl 2 rfl) ?_
                refine lv_iconst (v := nI 1) hx hb dX6_as_55 (by decide) ?_
                refine zcsE (va_runV (As := [.int (nI j), .int (nI 1)]) (rest := []) ⟨hx, hb, hml, hown, hts⟩ (c_X6_its l D cI cJ h hs fs S j 1 (by first | rfl | assumption | omega) (by first | rfl | assumption | omega) s.heap.size) (cwV 2 hts gX6_as_X6_its rfl rfl rfl (by decide +kernel) ⟨Nat.le_of_ble_eq_true rfl, Nat.le_of_ble_eq_true rfl⟩) (zpV hK hN hZ hP hD hS hA [0, 1] rfl (by decide) 0 rfl rfl rfl) rfl rfl hl.1 rfl (lv_room (Nat.le_of_ble_eq_true rfl)) dX6_as_56 ⟨Nat.zero_le _, Nat.zero_le _⟩) ?_
                refine lv_goto (tgt := 67) hx hb dX6_as_59 (by decide) ?_
                exact hret hP hD hS dX6_as_67 rfl (by rw [show zo_as S E n k (nI j) (nI q) = (S (8 + 4 * j + 1), S, E) from by rw [zo_as, if_pos ⟨by assumption, by assumption⟩, nI_clamp (show j < 2147483648 by omega), hkd, nI_clamp (show 1 < 2147483648 by omega), nI_clamp (show q < 2147483648 by omega), if_pos (bI_t (by omega))] <;> rfl]; exact ⟨rfl, rfl⟩)
            · have c33_22 : ¬ (0 = q) := fun h9 => c33_22 ((nI_eq (a := 0) (b := q) (by omega) (by omega)).mpr h9)
              refine lv_iload_n hx hb dX6_as_36 rfl (lv_at hl 0 rfl) ?_
              refine lv_if_eq (tgt := 48) hx hb dX6_as_37 (by decide) (fun c37_27 => ?_) (fun c37_27 => ?_)
              · have c37_27 : 0 = 0 := (nI_eq (a := 0) (b := 0) (by omega) (by omega)).mp c37_27
                refine lv_iload_n hx hb dX6_as_48 rfl (lv_at hl 0 rfl) ?_
                refine lv_iload_n hx hb dX6_as_49 rfl (lv_at hl 3 rfl) ?_
                refine lv_icmp_ne (tgt := 62) hx hb dX6_as_50 (by decide) (fun c50_28 => ?_) (fun c50_28 => ?_)
                · have c50_28 : ¬ (0 = q) := fun h9 => c50_28 ((nI_eq (a := 0) (b := q) (by omega) (by omega)).mpr h9)
                  refine lv_aload_n hx hb dX6_as_62 rfl (lv_at hl 1 rfl) ?_
                  refine lv_iconst (v := nI 5) hx hb dX6_as_63 (by decide) ?_
                  refine zci (wr := [(hs, .inl (cI, 380, .inl S))]) (va_runV (As := [.int (nI 5)]) (rest := []) ⟨hx, hb, hml, hown, hts⟩ (c_X6_error l D cI cJ h hE fs E 5 (by first | rfl | assumption | omega) (by first | rfl | assumption | omega) s.heap.size) (cwV 1 hts gX6_as_X6_error rfl rfl rfl (by decide +kernel) ⟨Nat.le_of_ble_eq_true rfl, Nat.le_of_ble_eq_true rfl⟩) (zpV hK hN hZ hP hD hS hA [0, 2] rfl (by decide) 0 rfl rfl rfl) rfl rfl hl.1 rfl (lv_room (Nat.le_of_ble_eq_true rfl)) dX6_as_64 ⟨Nat.zero_le _, Nat.zero_le _⟩) hP hD hS hA [0, 2] [1] rfl rfl (by decide) (by decide) (fun r_31 w_30 H locs h_29 hP hD hS => ?_)
                  obtain ⟨rfl, rfl⟩ := h_29
                  have hP : va_P D vwCl [(hs, .inl (cI, 380, .inl S)), (h, .inr (6, fs)), (hE, .inl (cI, 7, .inl (upd E 5 (E 5 + nI 1))))] H := hP
                  have hD : va_D AA [(hs, .inl (cI, 380, .inl S)), (h, .inr (6, fs)), (hE, .inl (cI, 7, .inl (upd E 5 (E 5 + nI 1))))] := hD
                  have hP := hP.sub (ws' := [(h, .inr (6, fs)), (hs, .inl (cI, 380, .inl S)), (hE, .inl (cI, 7, .inl (upd E 5 (E 5 + nI 1))))]) [1, 0, 2] rfl
                  have hD := hD.sub (ws' := [(h, .inr (6, fs)), (hs, .inl (cI, 380, .inl S)), (hE, .inl (cI, 7, .inl (upd E 5 (E 5 + nI 1))))]) [1, 0, 2] (by decide) rfl
                  exact hret hP hD hS dX6_as_67 rfl (by rw [show zo_as S E n k (nI j) (nI q) = zerrE 5 S E from by rw [zo_as, if_pos ⟨by assumption, by assumption⟩, nI_clamp (show j < 2147483648 by omega), hkd, nI_clamp (show 1 < 2147483648 by omega), nI_clamp (show q < 2147483648 by omega), if_neg (by rw [bI9, bI_f (by omega)]; decide)] <;> rfl]; exact ⟨rfl, rfl⟩)
                · have c50_28 : 0 = q := (nI_eq (a := 0) (b := q) (by omega) (by omega)).mp c50_28
                  refine lv_aload_n hx hb dX6_as_53 rfl (lv_at hl 1 rfl) ?_
                  refine lv_iload_n hx hb dX6_as_54 rfl (lv_at hl 2 rfl) ?_
                  refine lv_iconst (v := nI 1) hx hb dX6_as_55 (by decide) ?_
                  refine zcsE (va_runV (As := [.int (nI j), .int (nI 1)]) (rest := []) ⟨hx, hb, hml, hown, hts⟩ (c_X6_its l D cI cJ h hs fs S j 1 (by first | rfl | assumption | omega) (by first | rfl | assumption | omega) s.heap.size) (cwV 2 hts gX6_as_X6_its rfl rfl rfl (by decide +kernel) ⟨Nat.le_of_ble_eq_true rfl, Nat.le_of_ble_eq_true rfl⟩) (zpV hK hN hZ hP hD hS hA [0, 1] rfl (by decide) 0 rfl rfl rfl) rfl rfl hl.1 rfl (lv_room (Nat.le_of_ble_eq_true rfl)) dX6_as_56 ⟨Nat.zero_le _, Nat.zero_le _⟩) ?_
                  refine lv_goto (tgt := 67) hx hb dX6_as_59 (by decide) ?_
                  exact hret hP hD hS dX6_as_67 rfl (by rw [show zo_as S E n k (nI j) (nI q) = (S (8 + 4 * j + 1), S, E) from by rw [zo_as, if_pos ⟨by assumption, by assumption⟩, nI_clamp (show j < 2147483648 by omega), hkd, nI_clamp (show 1 < 2147483648 by omega), nI_clamp (show q < 2147483648 by omega), if_pos (bI_t (by omega))] <;> rfl]; exact ⟨rfl, rfl⟩)
              · have c37_27 : ¬ (0 = 0) := fun h9 => c37_27 ((nI_eq (a := 0) (b := 0) (by omega) (by omega)).mpr h9)
                exact absurd c37_27 (by omega)
      · subst h9
        refine lv_istore_n (lv' := [(3, .int (nI 2)), (0, .ref h), (1, .int (nI j)), (2, .int (nI q))]) hx hb dX6_as_30 rfl hl (by decide) rfl (fun ls hl => ?_)
        refine lv_iload_n hx hb dX6_as_31 rfl (lv_at hl 0 rfl) ?_
        refine lv_iload_n hx hb dX6_as_32 rfl (lv_at hl 3 rfl) ?_
        refine lv_icmp_eq (tgt := 48) hx hb dX6_as_33 (by decide) (fun c33_32 => ?_) (fun c33_32 => ?_)
        · have c33_32 : 2 = q := (nI_eq (a := 2) (b := q) (by omega) (by omega)).mp c33_32
          refine lv_iload_n hx hb dX6_as_48 rfl (lv_at hl 0 rfl) ?_
          refine lv_iload_n hx hb dX6_as_49 rfl (lv_at hl 3 rfl) ?_
          refine lv_icmp_ne (tgt := 62) hx hb dX6_as_50 (by decide) (fun c50_33 => ?_) (fun c50_33 => ?_)
          · have c50_33 : ¬ (2 = q) := fun h9 => c50_33 ((nI_eq (a := 2) (b := q) (by omega) (by omega)).mpr h9)
            refine lv_aload_n hx hb dX6_as_62 rfl (lv_at hl 1 rfl) ?_
            refine lv_iconst (v := nI 5) hx hb dX6_as_63 (by decide) ?_
            refine zci (wr := [(hs, .inl (cI, 380, .inl S))]) (va_runV (As := [.int (nI 5)]) (rest := []) ⟨hx, hb, hml, hown, hts⟩ (c_X6_error l D cI cJ h hE fs E 5 (by first | rfl | assumption | omega) (by first | rfl | assumption | omega) s.heap.size) (cwV 1 hts gX6_as_X6_error rfl rfl rfl (by decide +kernel) ⟨Nat.le_of_ble_eq_true rfl, Nat.le_of_ble_eq_true rfl⟩) (zpV hK hN hZ hP hD hS hA [0, 2] rfl (by decide) 0 rfl rfl rfl) rfl rfl hl.1 rfl (lv_room (Nat.le_of_ble_eq_true rfl)) dX6_as_64 ⟨Nat.zero_le _, Nat.zero_le _⟩) hP hD hS hA [0, 2] [1] rfl rfl (by decide) (by decide) (fun r_36 w_35 H locs h_34 hP hD hS => ?_)
            obtain ⟨rfl, rfl⟩ := h_34
            have hP : va_P D vwCl [(hs, .inl (cI, 380, .inl S)), (h, .inr (6, fs)), (hE, .inl (cI, 7, .inl (upd E 5 (E 5 + nI 1))))] H := hP
            have hD : va_D AA [(hs, .inl (cI, 380, .inl S)), (h, .inr (6, fs)), (hE, .inl (cI, 7, .inl (upd E 5 (E 5 + nI 1))))] := hD
            have hP := hP.sub (ws' := [(h, .inr (6, fs)), (hs, .inl (cI, 380, .inl S)), (hE, .inl (cI, 7, .inl (upd E 5 (E 5 + nI 1))))]) [1, 0, 2] rfl
            have hD := hD.sub (ws' := [(h, .inr (6, fs)), (hs, .inl (cI, 380, .inl S)), (hE, .inl (cI, 7, .inl (upd E 5 (E 5 + nI 1))))]) [1, 0, 2] (by decide) rfl
            exact hret hP hD hS dX6_as_67 rfl (by rw [show zo_as S E n k (nI j) (nI q) = zerrE 5 S E from by rw [zo_as, if_pos ⟨by assumption, by assumption⟩, nI_clamp (show j < 2147483648 by omega), hkd, nI_clamp (show 2 < 2147483648 by omega), nI_clamp (show q < 2147483648 by omega), if_neg (by rw [bI9, bI_f (by omega)]; decide)] <;> rfl]; exact ⟨rfl, rfl⟩)
          · have c50_33 : 2 = q := (nI_eq (a := 2) (b := q) (by omega) (by omega)).mp c50_33
            refine lv_aload_n hx hb dX6_as_53 rfl (lv_at hl 1 rfl) ?_
            refine lv_iload_n hx hb dX6_as_54 rfl (lv_at hl 2 rfl) ?_
            refine lv_iconst (v := nI 1) hx hb dX6_as_55 (by decide) ?_
            refine zcsE (va_runV (As := [.int (nI j), .int (nI 1)]) (rest := []) ⟨hx, hb, hml, hown, hts⟩ (c_X6_its l D cI cJ h hs fs S j 1 (by first | rfl | assumption | omega) (by first | rfl | assumption | omega) s.heap.size) (cwV 2 hts gX6_as_X6_its rfl rfl rfl (by decide +kernel) ⟨Nat.le_of_ble_eq_true rfl, Nat.le_of_ble_eq_true rfl⟩) (zpV hK hN hZ hP hD hS hA [0, 1] rfl (by decide) 0 rfl rfl rfl) rfl rfl hl.1 rfl (lv_room (Nat.le_of_ble_eq_true rfl)) dX6_as_56 ⟨Nat.zero_le _, Nat.zero_le _⟩) ?_
            refine lv_goto (tgt := 67) hx hb dX6_as_59 (by decide) ?_
            exact hret hP hD hS dX6_as_67 rfl (by rw [show zo_as S E n k (nI j) (nI q) = (S (8 + 4 * j + 1), S, E) from by rw [zo_as, if_pos ⟨by assumption, by assumption⟩, nI_clamp (show j < 2147483648 by omega), hkd, nI_clamp (show 2 < 2147483648 by omega), nI_clamp (show q < 2147483648 by omega), if_pos (bI_t (by omega))] <;> rfl]; exact ⟨rfl, rfl⟩)
        · have c33_32 : ¬ (2 = q) := fun h9 => c33_32 ((nI_eq (a := 2) (b := q) (by omega) (by omega)).mpr h9)
          refine lv_iload_n hx hb dX6_as_36 rfl (lv_at hl 0 rfl) ?_
          refine lv_if_eq (tgt := 48) hx hb dX6_as_37 (by decide) (fun c37_37 => ?_) (fun c37_37 => ?_)
          · have c37_37 : 2 = 0 := (nI_eq (a := 2) (b := 0) (by omega) (by omega)).mp c37_37
            exact absurd c37_37 (by omega)
          · have c37_37 : ¬ (2 = 0) := fun h9 => c37_37 ((nI_eq (a := 2) (b := 0) (by omega) (by omega)).mpr h9)
            refine lv_iload_n hx hb dX6_as_40 rfl (lv_at hl 0 rfl) ?_
            refine zcsE (va_runS (As := [.int (nI 2)]) (rest := []) ⟨hx, hb, hml, hown, hts⟩ (c_X6_above l D cI cJ 2 (by first | rfl | assumption | omega) s.heap.size) (va_cwS 1 hts gX6_as_X6_above rfl rfl rfl (by decide +kernel) ⟨Nat.le_of_ble_eq_true rfl, Nat.le_of_ble_eq_true rfl⟩) (zpS hK hN hZ hP hD hS hA [] rfl (by decide)) rfl rfl hl.1 rfl (lv_room (Nat.le_of_ble_eq_true rfl)) dX6_as_41 ⟨Nat.zero_le _, Nat.zero_le _⟩) ?_
            refine zrw rfl ?_
            refine lv_istore_n (lv' := [(3, .int (nI 0)), (0, .ref h), (1, .int (nI j)), (2, .int (nI q))]) hx hb dX6_as_44 rfl hl (by decide) rfl (fun ls hl => ?_)
            refine lv_goto (tgt := 31) hx hb dX6_as_45 (by decide) ?_
            refine lv_iload_n hx hb dX6_as_31 rfl (lv_at hl 0 rfl) ?_
            refine lv_iload_n hx hb dX6_as_32 rfl (lv_at hl 3 rfl) ?_
            refine lv_icmp_eq (tgt := 48) hx hb dX6_as_33 (by decide) (fun c33_38 => ?_) (fun c33_38 => ?_)
            · have c33_38 : 0 = q := (nI_eq (a := 0) (b := q) (by omega) (by omega)).mp c33_38
              refine lv_iload_n hx hb dX6_as_48 rfl (lv_at hl 0 rfl) ?_
              refine lv_iload_n hx hb dX6_as_49 rfl (lv_at hl 3 rfl) ?_
              refine lv_icmp_ne (tgt := 62) hx hb dX6_as_50 (by decide) (fun c50_39 => ?_) (fun c50_39 => ?_)
              · have c50_39 : ¬ (0 = q) := fun h9 => c50_39 ((nI_eq (a := 0) (b := q) (by omega) (by omega)).mpr h9)
                refine lv_aload_n hx hb dX6_as_62 rfl (lv_at hl 1 rfl) ?_
                refine lv_iconst (v := nI 5) hx hb dX6_as_63 (by decide) ?_
                refine zci (wr := [(hs, .inl (cI, 380, .inl S))]) (va_runV (As := [.int (nI 5)]) (rest := []) ⟨hx, hb, hml, hown, hts⟩ (c_X6_error l D cI cJ h hE fs E 5 (by first | rfl | assumption | omega) (by first | rfl | assumption | omega) s.heap.size) (cwV 1 hts gX6_as_X6_error rfl rfl rfl (by decide +kernel) ⟨Nat.le_of_ble_eq_true rfl, Nat.le_of_ble_eq_true rfl⟩) (zpV hK hN hZ hP hD hS hA [0, 2] rfl (by decide) 0 rfl rfl rfl) rfl rfl hl.1 rfl (lv_room (Nat.le_of_ble_eq_true rfl)) dX6_as_64 ⟨Nat.zero_le _, Nat.zero_le _⟩) hP hD hS hA [0, 2] [1] rfl rfl (by decide) (by decide) (fun r_42 w_41 H locs h_40 hP hD hS => ?_)
                obtain ⟨rfl, rfl⟩ := h_40
                have hP : va_P D vwCl [(hs, .inl (cI, 380, .inl S)), (h, .inr (6, fs)), (hE, .inl (cI, 7, .inl (upd E 5 (E 5 + nI 1))))] H := hP
                have hD : va_D AA [(hs, .inl (cI, 380, .inl S)), (h, .inr (6, fs)), (hE, .inl (cI, 7, .inl (upd E 5 (E 5 + nI 1))))] := hD
                have hP := hP.sub (ws' := [(h, .inr (6, fs)), (hs, .inl (cI, 380, .inl S)), (hE, .inl (cI, 7, .inl (upd E 5 (E 5 + nI 1))))]) [1, 0, 2] rfl
                have hD := hD.sub (ws' := [(h, .inr (6, fs)), (hs, .inl (cI, 380, .inl S)), (hE, .inl (cI, 7, .inl (upd E 5 (E 5 + nI 1))))]) [1, 0, 2] (by decide) rfl
                exact hret hP hD hS dX6_as_67 rfl (by rw [show zo_as S E n k (nI j) (nI q) = zerrE 5 S E from by rw [zo_as, if_pos ⟨by assumption, by assumption⟩, nI_clamp (show j < 2147483648 by omega), hkd, nI_clamp (show 2 < 2147483648 by omega), nI_clamp (show q < 2147483648 by omega), if_neg (by rw [bI9, bI_f (by omega)]; decide)] <;> rfl]; exact ⟨rfl, rfl⟩)
              · have c50_39 : 0 = q := (nI_eq (a := 0) (b := q) (by omega) (by omega)).mp c50_39
                refine lv_aload_n hx hb dX6_as_53 rfl (lv_at hl 1 rfl) ?_
                refine lv_iload_n hx hb dX6_as_54 rfl (lv_at hl 2 rfl) ?_
                refine lv_iconst (v := nI 1) hx hb dX6_as_55 (by decide) ?_
                refine zcsE (va_runV (As := [.int (nI j), .int (nI 1)]) (rest := []) ⟨hx, hb, hml, hown, hts⟩ (c_X6_its l D cI cJ h hs fs S j 1 (by first | rfl | assumption | omega) (by first | rfl | assumption | omega) s.heap.size) (cwV 2 hts gX6_as_X6_its rfl rfl rfl (by decide +kernel) ⟨Nat.le_of_ble_eq_true rfl, Nat.le_of_ble_eq_true rfl⟩) (zpV hK hN hZ hP hD hS hA [0, 1] rfl (by decide) 0 rfl rfl rfl) rfl rfl hl.1 rfl (lv_room (Nat.le_of_ble_eq_true rfl)) dX6_as_56 ⟨Nat.zero_le _, Nat.zero_le _⟩) ?_
                refine lv_goto (tgt := 67) hx hb dX6_as_59 (by decide) ?_
                exact hret hP hD hS dX6_as_67 rfl (by rw [show zo_as S E n k (nI j) (nI q) = (S (8 + 4 * j + 1), S, E) from by rw [zo_as, if_pos ⟨by assumption, by assumption⟩, nI_clamp (show j < 2147483648 by omega), hkd, nI_clamp (show 2 < 2147483648 by omega), nI_clamp (show q < 2147483648 by omega), if_pos (bI_t (by omega))] <;> rfl]; exact ⟨rfl, rfl⟩)
            · have c33_38 : ¬ (0 = q) := fun h9 => c33_38 ((nI_eq (a := 0) (b := q) (by omega) (by omega)).mpr h9)
              refine lv_iload_n hx hb dX6_as_36 rfl (lv_at hl 0 rfl) ?_
              refine lv_if_eq (tgt := 48) hx hb dX6_as_37 (by decide) (fun c37_43 => ?_) (fun c37_43 => ?_)
              · have c37_43 : 0 = 0 := (nI_eq (a := 0) (b := 0) (by omega) (by omega)).mp c37_43
                refine lv_iload_n hx hb dX6_as_48 rfl (lv_at hl 0 rfl) ?_
                refine lv_iload_n hx hb dX6_as_49 rfl (lv_at hl 3 rfl) ?_
                refine lv_icmp_ne (tgt := 62) hx hb dX6_as_50 (by decide) (fun c50_44 => ?_) (fun c50_44 => ?_)
                · have c50_44 : ¬ (0 = q) := fun h9 => c50_44 ((nI_eq (a := 0) (b := q) (by omega) (by omega)).mpr h9)
                  refine lv_aload_n hx hb dX6_as_62 rfl (lv_at hl 1 rfl) ?_
                  refine lv_iconst (v := nI 5) hx hb dX6_as_63 (by decide) ?_
                  refine zci (wr := [(hs, .inl (cI, 380, .inl S))]) (va_runV (As := [.int (nI 5)]) (rest := []) ⟨hx, hb, hml, hown, hts⟩ (c_X6_error l D cI cJ h hE fs E 5 (by first | rfl | assumption | omega) (by first | rfl | assumption | omega) s.heap.size) (cwV 1 hts gX6_as_X6_error rfl rfl rfl (by decide +kernel) ⟨Nat.le_of_ble_eq_true rfl, Nat.le_of_ble_eq_true rfl⟩) (zpV hK hN hZ hP hD hS hA [0, 2] rfl (by decide) 0 rfl rfl rfl) rfl rfl hl.1 rfl (lv_room (Nat.le_of_ble_eq_true rfl)) dX6_as_64 ⟨Nat.zero_le _, Nat.zero_le _⟩) hP hD hS hA [0, 2] [1] rfl rfl (by decide) (by decide) (fun r_47 w_46 H locs h_45 hP hD hS => ?_)
                  obtain ⟨rfl, rfl⟩ := h_45
                  have hP : va_P D vwCl [(hs, .inl (cI, 380, .inl S)), (h, .inr (6, fs)), (hE, .inl (cI, 7, .inl (upd E 5 (E 5 + nI 1))))] H := hP
                  have hD : va_D AA [(hs, .inl (cI, 380, .inl S)), (h, .inr (6, fs)), (hE, .inl (cI, 7, .inl (upd E 5 (E 5 + nI 1))))] := hD
                  have hP := hP.sub (ws' := [(h, .inr (6, fs)), (hs, .inl (cI, 380, .inl S)), (hE, .inl (cI, 7, .inl (upd E 5 (E 5 + nI 1))))]) [1, 0, 2] rfl
                  have hD := hD.sub (ws' := [(h, .inr (6, fs)), (hs, .inl (cI, 380, .inl S)), (hE, .inl (cI, 7, .inl (upd E 5 (E 5 + nI 1))))]) [1, 0, 2] (by decide) rfl
                  exact hret hP hD hS dX6_as_67 rfl (by rw [show zo_as S E n k (nI j) (nI q) = zerrE 5 S E from by rw [zo_as, if_pos ⟨by assumption, by assumption⟩, nI_clamp (show j < 2147483648 by omega), hkd, nI_clamp (show 2 < 2147483648 by omega), nI_clamp (show q < 2147483648 by omega), if_neg (by rw [bI9, bI_f (by omega)]; decide)] <;> rfl]; exact ⟨rfl, rfl⟩)
                · have c50_44 : 0 = q := (nI_eq (a := 0) (b := q) (by omega) (by omega)).mp c50_44
                  refine lv_aload_n hx hb dX6_as_53 rfl (lv_at hl 1 rfl) ?_
                  refine lv_iload_n hx hb dX6_as_54 rfl (lv_at hl 2 rfl) ?_
                  refine lv_iconst (v := nI 1) hx hb dX6_as_55 (by decide) ?_
                  refine zcsE (va_runV (As := [.int (nI j), .int (nI 1)]) (rest := []) ⟨hx, hb, hml, hown, hts⟩ (c_X6_its l D cI cJ h hs fs S j 1 (by first | rfl | assumption | omega) (by first | rfl | assumption | omega) s.heap.size) (cwV 2 hts gX6_as_X6_its rfl rfl rfl (by decide +kernel) ⟨Nat.le_of_ble_eq_true rfl, Nat.le_of_ble_eq_true rfl⟩) (zpV hK hN hZ hP hD hS hA [0, 1] rfl (by decide) 0 rfl rfl rfl) rfl rfl hl.1 rfl (lv_room (Nat.le_of_ble_eq_true rfl)) dX6_as_56 ⟨Nat.zero_le _, Nat.zero_le _⟩) ?_
                  refine lv_goto (tgt := 67) hx hb dX6_as_59 (by decide) ?_
                  exact hret hP hD hS dX6_as_67 rfl (by rw [show zo_as S E n k (nI j) (nI q) = (S (8 + 4 * j + 1), S, E) from by rw [zo_as, if_pos ⟨by assumption, by assumption⟩, nI_clamp (show j < 2147483648 by omega), hkd, nI_clamp (show 2 < 2147483648 by omega), nI_clamp (show q < 2147483648 by omega), if_pos (bI_t (by omega))] <;> rfl]; exact ⟨rfl, rfl⟩)
              · have c37_43 : ¬ (0 = 0) := fun h9 => c37_43 ((nI_eq (a := 0) (b := 0) (by omega) (by omega)).mpr h9)
                exact absurd c37_43 (by omega)
      · subst h9
        refine lv_istore_n (lv' := [(3, .int (nI 3)), (0, .ref h), (1, .int (nI j)), (2, .int (nI q))]) hx hb dX6_as_30 rfl hl (by decide) rfl (fun ls hl => ?_)
        refine lv_iload_n hx hb dX6_as_31 rfl (lv_at hl 0 rfl) ?_
        refine lv_iload_n hx hb dX6_as_32 rfl (lv_at hl 3 rfl) ?_
        refine lv_icmp_eq (tgt := 48) hx hb dX6_as_33 (by decide) (fun c33_48 => ?_) (fun c33_48 => ?_)
        · have c33_48 : 3 = q := (nI_eq (a := 3) (b := q) (by omega) (by omega)).mp c33_48
          refine lv_iload_n hx hb dX6_as_48 rfl (lv_at hl 0 rfl) ?_
          refine lv_iload_n hx hb dX6_as_49 rfl (lv_at hl 3 rfl) ?_
          refine lv_icmp_ne (tgt := 62) hx hb dX6_as_50 (by decide) (fun c50_49 => ?_) (fun c50_49 => ?_)
          · have c50_49 : ¬ (3 = q) := fun h9 => c50_49 ((nI_eq (a := 3) (b := q) (by omega) (by omega)).mpr h9)
            refine lv_aload_n hx hb dX6_as_62 rfl (lv_at hl 1 rfl) ?_
            refine lv_iconst (v := nI 5) hx hb dX6_as_63 (by decide) ?_
            refine zci (wr := [(hs, .inl (cI, 380, .inl S))]) (va_runV (As := [.int (nI 5)]) (rest := []) ⟨hx, hb, hml, hown, hts⟩ (c_X6_error l D cI cJ h hE fs E 5 (by first | rfl | assumption | omega) (by first | rfl | assumption | omega) s.heap.size) (cwV 1 hts gX6_as_X6_error rfl rfl rfl (by decide +kernel) ⟨Nat.le_of_ble_eq_true rfl, Nat.le_of_ble_eq_true rfl⟩) (zpV hK hN hZ hP hD hS hA [0, 2] rfl (by decide) 0 rfl rfl rfl) rfl rfl hl.1 rfl (lv_room (Nat.le_of_ble_eq_true rfl)) dX6_as_64 ⟨Nat.zero_le _, Nat.zero_le _⟩) hP hD hS hA [0, 2] [1] rfl rfl (by decide) (by decide) (fun r_52 w_51 H locs h_50 hP hD hS => ?_)
            obtain ⟨rfl, rfl⟩ := h_50
            have hP : va_P D vwCl [(hs, .inl (cI, 380, .inl S)), (h, .inr (6, fs)), (hE, .inl (cI, 7, .inl (upd E 5 (E 5 + nI 1))))] H := hP
            have hD : va_D AA [(hs, .inl (cI, 380, .inl S)), (h, .inr (6, fs)), (hE, .inl (cI, 7, .inl (upd E 5 (E 5 + nI 1))))] := hD
            have hP := hP.sub (ws' := [(h, .inr (6, fs)), (hs, .inl (cI, 380, .inl S)), (hE, .inl (cI, 7, .inl (upd E 5 (E 5 + nI 1))))]) [1, 0, 2] rfl
            have hD := hD.sub (ws' := [(h, .inr (6, fs)), (hs, .inl (cI, 380, .inl S)), (hE, .inl (cI, 7, .inl (upd E 5 (E 5 + nI 1))))]) [1, 0, 2] (by decide) rfl
            exact hret hP hD hS dX6_as_67 rfl (by rw [show zo_as S E n k (nI j) (nI q) = zerrE 5 S E from by rw [zo_as, if_pos ⟨by assumption, by assumption⟩, nI_clamp (show j < 2147483648 by omega), hkd, nI_clamp (show 3 < 2147483648 by omega), nI_clamp (show q < 2147483648 by omega), if_neg (by rw [bI9, bI_f (by omega)]; decide)] <;> rfl]; exact ⟨rfl, rfl⟩)
          · have c50_49 : 3 = q := (nI_eq (a := 3) (b := q) (by omega) (by omega)).mp c50_49
            refine lv_aload_n hx hb dX6_as_53 rfl (lv_at hl 1 rfl) ?_
            refine lv_iload_n hx hb dX6_as_54 rfl (lv_at hl 2 rfl) ?_
            refine lv_iconst (v := nI 1) hx hb dX6_as_55 (by decide) ?_
            refine zcsE (va_runV (As := [.int (nI j), .int (nI 1)]) (rest := []) ⟨hx, hb, hml, hown, hts⟩ (c_X6_its l D cI cJ h hs fs S j 1 (by first | rfl | assumption | omega) (by first | rfl | assumption | omega) s.heap.size) (cwV 2 hts gX6_as_X6_its rfl rfl rfl (by decide +kernel) ⟨Nat.le_of_ble_eq_true rfl, Nat.le_of_ble_eq_true rfl⟩) (zpV hK hN hZ hP hD hS hA [0, 1] rfl (by decide) 0 rfl rfl rfl) rfl rfl hl.1 rfl (lv_room (Nat.le_of_ble_eq_true rfl)) dX6_as_56 ⟨Nat.zero_le _, Nat.zero_le _⟩) ?_
            refine lv_goto (tgt := 67) hx hb dX6_as_59 (by decide) ?_
            exact hret hP hD hS dX6_as_67 rfl (by rw [show zo_as S E n k (nI j) (nI q) = (S (8 + 4 * j + 1), S, E) from by rw [zo_as, if_pos ⟨by assumption, by assumption⟩, nI_clamp (show j < 2147483648 by omega), hkd, nI_clamp (show 3 < 2147483648 by omega), nI_clamp (show q < 2147483648 by omega), if_pos (bI_t (by omega))] <;> rfl]; exact ⟨rfl, rfl⟩)
        · have c33_48 : ¬ (3 = q) := fun h9 => c33_48 ((nI_eq (a := 3) (b := q) (by omega) (by omega)).mpr h9)
          refine lv_iload_n hx hb dX6_as_36 rfl (lv_at hl 0 rfl) ?_
          refine lv_if_eq (tgt := 48) hx hb dX6_as_37 (by decide) (fun c37_53 => ?_) (fun c37_53 => ?_)
          · have c37_53 : 3 = 0 := (nI_eq (a := 3) (b := 0) (by omega) (by omega)).mp c37_53
            exact absurd c37_53 (by omega)
          · have c37_53 : ¬ (3 = 0) := fun h9 => c37_53 ((nI_eq (a := 3) (b := 0) (by omega) (by omega)).mpr h9)
            refine lv_iload_n hx hb dX6_as_40 rfl (lv_at hl 0 rfl) ?_
            refine zcsE (va_runS (As := [.int (nI 3)]) (rest := []) ⟨hx, hb, hml, hown, hts⟩ (c_X6_above l D cI cJ 3 (by first | rfl | assumption | omega) s.heap.size) (va_cwS 1 hts gX6_as_X6_above rfl rfl rfl (by decide +kernel) ⟨Nat.le_of_ble_eq_true rfl, Nat.le_of_ble_eq_true rfl⟩) (zpS hK hN hZ hP hD hS hA [] rfl (by decide)) rfl rfl hl.1 rfl (lv_room (Nat.le_of_ble_eq_true rfl)) dX6_as_41 ⟨Nat.zero_le _, Nat.zero_le _⟩) ?_
            refine zrw rfl ?_
            refine lv_istore_n (lv' := [(3, .int (nI 0)), (0, .ref h), (1, .int (nI j)), (2, .int (nI q))]) hx hb dX6_as_44 rfl hl (by decide) rfl (fun ls hl => ?_)
            refine lv_goto (tgt := 31) hx hb dX6_as_45 (by decide) ?_
            refine lv_iload_n hx hb dX6_as_31 rfl (lv_at hl 0 rfl) ?_
            refine lv_iload_n hx hb dX6_as_32 rfl (lv_at hl 3 rfl) ?_
            refine lv_icmp_eq (tgt := 48) hx hb dX6_as_33 (by decide) (fun c33_54 => ?_) (fun c33_54 => ?_)
            · have c33_54 : 0 = q := (nI_eq (a := 0) (b := q) (by omega) (by omega)).mp c33_54
              refine lv_iload_n hx hb dX6_as_48 rfl (lv_at hl 0 rfl) ?_
              refine lv_iload_n hx hb dX6_as_49 rfl (lv_at hl 3 rfl) ?_
              refine lv_icmp_ne (tgt := 62) hx hb dX6_as_50 (by decide) (fun c50_55 => ?_) (fun c50_55 => ?_)
              · have c50_55 : ¬ (0 = q) := fun h9 => c50_55 ((nI_eq (a := 0) (b := q) (by omega) (by omega)).mpr h9)
                refine lv_aload_n hx hb dX6_as_62 rfl (lv_at hl 1 rfl) ?_
                refine lv_iconst (v := nI 5) hx hb dX6_as_63 (by decide) ?_
                refine zci (wr := [(hs, .inl (cI, 380, .inl S))]) (va_runV (As := [.int (nI 5)]) (rest := []) ⟨hx, hb, hml, hown, hts⟩ (c_X6_error l D cI cJ h hE fs E 5 (by first | rfl | assumption | omega) (by first | rfl | assumption | omega) s.heap.size) (cwV 1 hts gX6_as_X6_error rfl rfl rfl (by decide +kernel) ⟨Nat.le_of_ble_eq_true rfl, Nat.le_of_ble_eq_true rfl⟩) (zpV hK hN hZ hP hD hS hA [0, 2] rfl (by decide) 0 rfl rfl rfl) rfl rfl hl.1 rfl (lv_room (Nat.le_of_ble_eq_true rfl)) dX6_as_64 ⟨Nat.zero_le _, Nat.zero_le _⟩) hP hD hS hA [0, 2] [1] rfl rfl (by decide) (by decide) (fun r_58 w_57 H locs h_56 hP hD hS => ?_)
                obtain ⟨rfl, rfl⟩ := h_56
                have hP : va_P D vwCl [(hs, .inl (cI, 380, .inl S)), (h, .inr (6, fs)), (hE, .inl (cI, 7, .inl (upd E 5 (E 5 + nI 1))))] H := hP
                have hD : va_D AA [(hs, .inl (cI, 380, .inl S)), (h, .inr (6, fs)), (hE, .inl (cI, 7, .inl (upd E 5 (E 5 + nI 1))))] := hD
                have hP := hP.sub (ws' := [(h, .inr (6, fs)), (hs, .inl (cI, 380, .inl S)), (hE, .inl (cI, 7, .inl (upd E 5 (E 5 + nI 1))))]) [1, 0, 2] rfl
                have hD := hD.sub (ws' := [(h, .inr (6, fs)), (hs, .inl (cI, 380, .inl S)), (hE, .inl (cI, 7, .inl (upd E 5 (E 5 + nI 1))))]) [1, 0, 2] (by decide) rfl
                exact hret hP hD hS dX6_as_67 rfl (by rw [show zo_as S E n k (nI j) (nI q) = zerrE 5 S E from by rw [zo_as, if_pos ⟨by assumption, by assumption⟩, nI_clamp (show j < 2147483648 by omega), hkd, nI_clamp (show 3 < 2147483648 by omega), nI_clamp (show q < 2147483648 by omega), if_neg (by rw [bI9, bI_f (by omega)]; decide)] <;> rfl]; exact ⟨rfl, rfl⟩)
              · have c50_55 : 0 = q := (nI_eq (a := 0) (b := q) (by omega) (by omega)).mp c50_55
                refine lv_aload_n hx hb dX6_as_53 rfl (lv_at hl 1 rfl) ?_
                refine lv_iload_n hx hb dX6_as_54 rfl (lv_at hl 2 rfl) ?_
                refine lv_iconst (v := nI 1) hx hb dX6_as_55 (by decide) ?_
                refine zcsE (va_runV (As := [.int (nI j), .int (nI 1)]) (rest := []) ⟨hx, hb, hml, hown, hts⟩ (c_X6_its l D cI cJ h hs fs S j 1 (by first | rfl | assumption | omega) (by first | rfl | assumption | omega) s.heap.size) (cwV 2 hts gX6_as_X6_its rfl rfl rfl (by decide +kernel) ⟨Nat.le_of_ble_eq_true rfl, Nat.le_of_ble_eq_true rfl⟩) (zpV hK hN hZ hP hD hS hA [0, 1] rfl (by decide) 0 rfl rfl rfl) rfl rfl hl.1 rfl (lv_room (Nat.le_of_ble_eq_true rfl)) dX6_as_56 ⟨Nat.zero_le _, Nat.zero_le _⟩) ?_
                refine lv_goto (tgt := 67) hx hb dX6_as_59 (by decide) ?_
                exact hret hP hD hS dX6_as_67 rfl (by rw [show zo_as S E n k (nI j) (nI q) = (S (8 + 4 * j + 1), S, E) from by rw [zo_as, if_pos ⟨by assumption, by assumption⟩, nI_clamp (show j < 2147483648 by omega), hkd, nI_clamp (show 3 < 2147483648 by omega), nI_clamp (show q < 2147483648 by omega), if_pos (bI_t (by omega))] <;> rfl]; exact ⟨rfl, rfl⟩)
            · have c33_54 : ¬ (0 = q) := fun h9 => c33_54 ((nI_eq (a := 0) (b := q) (by omega) (by omega)).mpr h9)
              refine lv_iload_n hx hb dX6_as_36 rfl (lv_at hl 0 rfl) ?_
              refine lv_if_eq (tgt := 48) hx hb dX6_as_37 (by decide) (fun c37_59 => ?_) (fun c37_59 => ?_)
              · have c37_59 : 0 = 0 := (nI_eq (a := 0) (b := 0) (by omega) (by omega)).mp c37_59
                refine lv_iload_n hx hb dX6_as_48 rfl (lv_at hl 0 rfl) ?_
                refine lv_iload_n hx hb dX6_as_49 rfl (lv_at hl 3 rfl) ?_
                refine lv_icmp_ne (tgt := 62) hx hb dX6_as_50 (by decide) (fun c50_60 => ?_) (fun c50_60 => ?_)
                · have c50_60 : ¬ (0 = q) := fun h9 => c50_60 ((nI_eq (a := 0) (b := q) (by omega) (by omega)).mpr h9)
                  refine lv_aload_n hx hb dX6_as_62 rfl (lv_at hl 1 rfl) ?_
                  refine lv_iconst (v := nI 5) hx hb dX6_as_63 (by decide) ?_
                  refine zci (wr := [(hs, .inl (cI, 380, .inl S))]) (va_runV (As := [.int (nI 5)]) (rest := []) ⟨hx, hb, hml, hown, hts⟩ (c_X6_error l D cI cJ h hE fs E 5 (by first | rfl | assumption | omega) (by first | rfl | assumption | omega) s.heap.size) (cwV 1 hts gX6_as_X6_error rfl rfl rfl (by decide +kernel) ⟨Nat.le_of_ble_eq_true rfl, Nat.le_of_ble_eq_true rfl⟩) (zpV hK hN hZ hP hD hS hA [0, 2] rfl (by decide) 0 rfl rfl rfl) rfl rfl hl.1 rfl (lv_room (Nat.le_of_ble_eq_true rfl)) dX6_as_64 ⟨Nat.zero_le _, Nat.zero_le _⟩) hP hD hS hA [0, 2] [1] rfl rfl (by decide) (by decide) (fun r_63 w_62 H locs h_61 hP hD hS => ?_)
                  obtain ⟨rfl, rfl⟩ := h_61
                  have hP : va_P D vwCl [(hs, .inl (cI, 380, .inl S)), (h, .inr (6, fs)), (hE, .inl (cI, 7, .inl (upd E 5 (E 5 + nI 1))))] H := hP
                  have hD : va_D AA [(hs, .inl (cI, 380, .inl S)), (h, .inr (6, fs)), (hE, .inl (cI, 7, .inl (upd E 5 (E 5 + nI 1))))] := hD
                  have hP := hP.sub (ws' := [(h, .inr (6, fs)), (hs, .inl (cI, 380, .inl S)), (hE, .inl (cI, 7, .inl (upd E 5 (E 5 + nI 1))))]) [1, 0, 2] rfl
                  have hD := hD.sub (ws' := [(h, .inr (6, fs)), (hs, .inl (cI, 380, .inl S)), (hE, .inl (cI, 7, .inl (upd E 5 (E 5 + nI 1))))]) [1, 0, 2] (by decide) rfl
                  exact hret hP hD hS dX6_as_67 rfl (by rw [show zo_as S E n k (nI j) (nI q) = zerrE 5 S E from by rw [zo_as, if_pos ⟨by assumption, by assumption⟩, nI_clamp (show j < 2147483648 by omega), hkd, nI_clamp (show 3 < 2147483648 by omega), nI_clamp (show q < 2147483648 by omega), if_neg (by rw [bI9, bI_f (by omega)]; decide)] <;> rfl]; exact ⟨rfl, rfl⟩)
                · have c50_60 : 0 = q := (nI_eq (a := 0) (b := q) (by omega) (by omega)).mp c50_60
                  refine lv_aload_n hx hb dX6_as_53 rfl (lv_at hl 1 rfl) ?_
                  refine lv_iload_n hx hb dX6_as_54 rfl (lv_at hl 2 rfl) ?_
                  refine lv_iconst (v := nI 1) hx hb dX6_as_55 (by decide) ?_
                  refine zcsE (va_runV (As := [.int (nI j), .int (nI 1)]) (rest := []) ⟨hx, hb, hml, hown, hts⟩ (c_X6_its l D cI cJ h hs fs S j 1 (by first | rfl | assumption | omega) (by first | rfl | assumption | omega) s.heap.size) (cwV 2 hts gX6_as_X6_its rfl rfl rfl (by decide +kernel) ⟨Nat.le_of_ble_eq_true rfl, Nat.le_of_ble_eq_true rfl⟩) (zpV hK hN hZ hP hD hS hA [0, 1] rfl (by decide) 0 rfl rfl rfl) rfl rfl hl.1 rfl (lv_room (Nat.le_of_ble_eq_true rfl)) dX6_as_56 ⟨Nat.zero_le _, Nat.zero_le _⟩) ?_
                  refine lv_goto (tgt := 67) hx hb dX6_as_59 (by decide) ?_
                  exact hret hP hD hS dX6_as_67 rfl (by rw [show zo_as S E n k (nI j) (nI q) = (S (8 + 4 * j + 1), S, E) from by rw [zo_as, if_pos ⟨by assumption, by assumption⟩, nI_clamp (show j < 2147483648 by omega), hkd, nI_clamp (show 3 < 2147483648 by omega), nI_clamp (show q < 2147483648 by omega), if_pos (bI_t (by omega))] <;> rfl]; exact ⟨rfl, rfl⟩)
              · have c37_59 : ¬ (0 = 0) := fun h9 => c37_59 ((nI_eq (a := 0) (b := 0) (by omega) (by omega)).mpr h9)
                exact absurd c37_59 (by omega)
      · subst h9
        refine lv_istore_n (lv' := [(3, .int (nI 4)), (0, .ref h), (1, .int (nI j)), (2, .int (nI q))]) hx hb dX6_as_30 rfl hl (by decide) rfl (fun ls hl => ?_)
        refine lv_iload_n hx hb dX6_as_31 rfl (lv_at hl 0 rfl) ?_
        refine lv_iload_n hx hb dX6_as_32 rfl (lv_at hl 3 rfl) ?_
        refine lv_icmp_eq (tgt := 48) hx hb dX6_as_33 (by decide) (fun c33_64 => ?_) (fun c33_64 => ?_)
        · have c33_64 : 4 = q := (nI_eq (a := 4) (b := q) (by omega) (by omega)).mp c33_64
          refine lv_iload_n hx hb dX6_as_48 rfl (lv_at hl 0 rfl) ?_
          refine lv_iload_n hx hb dX6_as_49 rfl (lv_at hl 3 rfl) ?_
          refine lv_icmp_ne (tgt := 62) hx hb dX6_as_50 (by decide) (fun c50_65 => ?_) (fun c50_65 => ?_)
          · have c50_65 : ¬ (4 = q) := fun h9 => c50_65 ((nI_eq (a := 4) (b := q) (by omega) (by omega)).mpr h9)
            refine lv_aload_n hx hb dX6_as_62 rfl (lv_at hl 1 rfl) ?_
            refine lv_iconst (v := nI 5) hx hb dX6_as_63 (by decide) ?_
            refine zci (wr := [(hs, .inl (cI, 380, .inl S))]) (va_runV (As := [.int (nI 5)]) (rest := []) ⟨hx, hb, hml, hown, hts⟩ (c_X6_error l D cI cJ h hE fs E 5 (by first | rfl | assumption | omega) (by first | rfl | assumption | omega) s.heap.size) (cwV 1 hts gX6_as_X6_error rfl rfl rfl (by decide +kernel) ⟨Nat.le_of_ble_eq_true rfl, Nat.le_of_ble_eq_true rfl⟩) (zpV hK hN hZ hP hD hS hA [0, 2] rfl (by decide) 0 rfl rfl rfl) rfl rfl hl.1 rfl (lv_room (Nat.le_of_ble_eq_true rfl)) dX6_as_64 ⟨Nat.zero_le _, Nat.zero_le _⟩) hP hD hS hA [0, 2] [1] rfl rfl (by decide) (by decide) (fun r_68 w_67 H locs h_66 hP hD hS => ?_)
            obtain ⟨rfl, rfl⟩ := h_66
            have hP : va_P D vwCl [(hs, .inl (cI, 380, .inl S)), (h, .inr (6, fs)), (hE, .inl (cI, 7, .inl (upd E 5 (E 5 + nI 1))))] H := hP
            have hD : va_D AA [(hs, .inl (cI, 380, .inl S)), (h, .inr (6, fs)), (hE, .inl (cI, 7, .inl (upd E 5 (E 5 + nI 1))))] := hD
            have hP := hP.sub (ws' := [(h, .inr (6, fs)), (hs, .inl (cI, 380, .inl S)), (hE, .inl (cI, 7, .inl (upd E 5 (E 5 + nI 1))))]) [1, 0, 2] rfl
            have hD := hD.sub (ws' := [(h, .inr (6, fs)), (hs, .inl (cI, 380, .inl S)), (hE, .inl (cI, 7, .inl (upd E 5 (E 5 + nI 1))))]) [1, 0, 2] (by decide) rfl
            exact hret hP hD hS dX6_as_67 rfl (by rw [show zo_as S E n k (nI j) (nI q) = zerrE 5 S E from by rw [zo_as, if_pos ⟨by assumption, by assumption⟩, nI_clamp (show j < 2147483648 by omega), hkd, nI_clamp (show 4 < 2147483648 by omega), nI_clamp (show q < 2147483648 by omega), if_neg (by rw [bI9, bI_f (by omega)]; decide)] <;> rfl]; exact ⟨rfl, rfl⟩)
          · have c50_65 : 4 = q := (nI_eq (a := 4) (b := q) (by omega) (by omega)).mp c50_65
            refine lv_aload_n hx hb dX6_as_53 rfl (lv_at hl 1 rfl) ?_
            refine lv_iload_n hx hb dX6_as_54 rfl (lv_at hl 2 rfl) ?_
            refine lv_iconst (v := nI 1) hx hb dX6_as_55 (by decide) ?_
            refine zcsE (va_runV (As := [.int (nI j), .int (nI 1)]) (rest := []) ⟨hx, hb, hml, hown, hts⟩ (c_X6_its l D cI cJ h hs fs S j 1 (by first | rfl | assumption | omega) (by first | rfl | assumption | omega) s.heap.size) (cwV 2 hts gX6_as_X6_its rfl rfl rfl (by decide +kernel) ⟨Nat.le_of_ble_eq_true rfl, Nat.le_of_ble_eq_true rfl⟩) (zpV hK hN hZ hP hD hS hA [0, 1] rfl (by decide) 0 rfl rfl rfl) rfl rfl hl.1 rfl (lv_room (Nat.le_of_ble_eq_true rfl)) dX6_as_56 ⟨Nat.zero_le _, Nat.zero_le _⟩) ?_
            refine lv_goto (tgt := 67) hx hb dX6_as_59 (by decide) ?_
            exact hret hP hD hS dX6_as_67 rfl (by rw [show zo_as S E n k (nI j) (nI q) = (S (8 + 4 * j + 1), S, E) from by rw [zo_as, if_pos ⟨by assumption, by assumption⟩, nI_clamp (show j < 2147483648 by omega), hkd, nI_clamp (show 4 < 2147483648 by omega), nI_clamp (show q < 2147483648 by omega), if_pos (bI_t (by omega))] <;> rfl]; exact ⟨rfl, rfl⟩)
        · have c33_64 : ¬ (4 = q) := fun h9 => c33_64 ((nI_eq (a := 4) (b := q) (by omega) (by omega)).mpr h9)
          refine lv_iload_n hx hb dX6_as_36 rfl (lv_at hl 0 rfl) ?_
          refine lv_if_eq (tgt := 48) hx hb dX6_as_37 (by decide) (fun c37_69 => ?_) (fun c37_69 => ?_)
          · have c37_69 : 4 = 0 := (nI_eq (a := 4) (b := 0) (by omega) (by omega)).mp c37_69
            exact absurd c37_69 (by omega)
          · have c37_69 : ¬ (4 = 0) := fun h9 => c37_69 ((nI_eq (a := 4) (b := 0) (by omega) (by omega)).mpr h9)
            refine lv_iload_n hx hb dX6_as_40 rfl (lv_at hl 0 rfl) ?_
            refine zcsE (va_runS (As := [.int (nI 4)]) (rest := []) ⟨hx, hb, hml, hown, hts⟩ (c_X6_above l D cI cJ 4 (by first | rfl | assumption | omega) s.heap.size) (va_cwS 1 hts gX6_as_X6_above rfl rfl rfl (by decide +kernel) ⟨Nat.le_of_ble_eq_true rfl, Nat.le_of_ble_eq_true rfl⟩) (zpS hK hN hZ hP hD hS hA [] rfl (by decide)) rfl rfl hl.1 rfl (lv_room (Nat.le_of_ble_eq_true rfl)) dX6_as_41 ⟨Nat.zero_le _, Nat.zero_le _⟩) ?_
            refine zrw rfl ?_
            refine lv_istore_n (lv' := [(3, .int (nI 1)), (0, .ref h), (1, .int (nI j)), (2, .int (nI q))]) hx hb dX6_as_44 rfl hl (by decide) rfl (fun ls hl => ?_)
            refine lv_goto (tgt := 31) hx hb dX6_as_45 (by decide) ?_
            refine lv_iload_n hx hb dX6_as_31 rfl (lv_at hl 0 rfl) ?_
            refine lv_iload_n hx hb dX6_as_32 rfl (lv_at hl 3 rfl) ?_
            refine lv_icmp_eq (tgt := 48) hx hb dX6_as_33 (by decide) (fun c33_70 => ?_) (fun c33_70 => ?_)
            · have c33_70 : 1 = q := (nI_eq (a := 1) (b := q) (by omega) (by omega)).mp c33_70
              refine lv_iload_n hx hb dX6_as_48 rfl (lv_at hl 0 rfl) ?_
              refine lv_iload_n hx hb dX6_as_49 rfl (lv_at hl 3 rfl) ?_
              refine lv_icmp_ne (tgt := 62) hx hb dX6_as_50 (by decide) (fun c50_71 => ?_) (fun c50_71 => ?_)
              · have c50_71 : ¬ (1 = q) := fun h9 => c50_71 ((nI_eq (a := 1) (b := q) (by omega) (by omega)).mpr h9)
                refine lv_aload_n hx hb dX6_as_62 rfl (lv_at hl 1 rfl) ?_
                refine lv_iconst (v := nI 5) hx hb dX6_as_63 (by decide) ?_
                refine zci (wr := [(hs, .inl (cI, 380, .inl S))]) (va_runV (As := [.int (nI 5)]) (rest := []) ⟨hx, hb, hml, hown, hts⟩ (c_X6_error l D cI cJ h hE fs E 5 (by first | rfl | assumption | omega) (by first | rfl | assumption | omega) s.heap.size) (cwV 1 hts gX6_as_X6_error rfl rfl rfl (by decide +kernel) ⟨Nat.le_of_ble_eq_true rfl, Nat.le_of_ble_eq_true rfl⟩) (zpV hK hN hZ hP hD hS hA [0, 2] rfl (by decide) 0 rfl rfl rfl) rfl rfl hl.1 rfl (lv_room (Nat.le_of_ble_eq_true rfl)) dX6_as_64 ⟨Nat.zero_le _, Nat.zero_le _⟩) hP hD hS hA [0, 2] [1] rfl rfl (by decide) (by decide) (fun r_74 w_73 H locs h_72 hP hD hS => ?_)
                obtain ⟨rfl, rfl⟩ := h_72
                have hP : va_P D vwCl [(hs, .inl (cI, 380, .inl S)), (h, .inr (6, fs)), (hE, .inl (cI, 7, .inl (upd E 5 (E 5 + nI 1))))] H := hP
                have hD : va_D AA [(hs, .inl (cI, 380, .inl S)), (h, .inr (6, fs)), (hE, .inl (cI, 7, .inl (upd E 5 (E 5 + nI 1))))] := hD
                have hP := hP.sub (ws' := [(h, .inr (6, fs)), (hs, .inl (cI, 380, .inl S)), (hE, .inl (cI, 7, .inl (upd E 5 (E 5 + nI 1))))]) [1, 0, 2] rfl
                have hD := hD.sub (ws' := [(h, .inr (6, fs)), (hs, .inl (cI, 380, .inl S)), (hE, .inl (cI, 7, .inl (upd E 5 (E 5 + nI 1))))]) [1, 0, 2] (by decide) rfl
                exact hret hP hD hS dX6_as_67 rfl (by rw [show zo_as S E n k (nI j) (nI q) = zerrE 5 S E from by rw [zo_as, if_pos ⟨by assumption, by assumption⟩, nI_clamp (show j < 2147483648 by omega), hkd, nI_clamp (show 4 < 2147483648 by omega), nI_clamp (show q < 2147483648 by omega), if_neg (by rw [bI9, bI_f (by omega)]; decide)] <;> rfl]; exact ⟨rfl, rfl⟩)
              · have c50_71 : 1 = q := (nI_eq (a := 1) (b := q) (by omega) (by omega)).mp c50_71
                refine lv_aload_n hx hb dX6_as_53 rfl (lv_at hl 1 rfl) ?_
                refine lv_iload_n hx hb dX6_as_54 rfl (lv_at hl 2 rfl) ?_
                refine lv_iconst (v := nI 1) hx hb dX6_as_55 (by decide) ?_
                refine zcsE (va_runV (As := [.int (nI j), .int (nI 1)]) (rest := []) ⟨hx, hb, hml, hown, hts⟩ (c_X6_its l D cI cJ h hs fs S j 1 (by first | rfl | assumption | omega) (by first | rfl | assumption | omega) s.heap.size) (cwV 2 hts gX6_as_X6_its rfl rfl rfl (by decide +kernel) ⟨Nat.le_of_ble_eq_true rfl, Nat.le_of_ble_eq_true rfl⟩) (zpV hK hN hZ hP hD hS hA [0, 1] rfl (by decide) 0 rfl rfl rfl) rfl rfl hl.1 rfl (lv_room (Nat.le_of_ble_eq_true rfl)) dX6_as_56 ⟨Nat.zero_le _, Nat.zero_le _⟩) ?_
                refine lv_goto (tgt := 67) hx hb dX6_as_59 (by decide) ?_
                exact hret hP hD hS dX6_as_67 rfl (by rw [show zo_as S E n k (nI j) (nI q) = (S (8 + 4 * j + 1), S, E) from by rw [zo_as, if_pos ⟨by assumption, by assumption⟩, nI_clamp (show j < 2147483648 by omega), hkd, nI_clamp (show 4 < 2147483648 by omega), nI_clamp (show q < 2147483648 by omega), if_pos (bI_t (by omega))] <;> rfl]; exact ⟨rfl, rfl⟩)
            · have c33_70 : ¬ (1 = q) := fun h9 => c33_70 ((nI_eq (a := 1) (b := q) (by omega) (by omega)).mpr h9)
              refine lv_iload_n hx hb dX6_as_36 rfl (lv_at hl 0 rfl) ?_
              refine lv_if_eq (tgt := 48) hx hb dX6_as_37 (by decide) (fun c37_75 => ?_) (fun c37_75 => ?_)
              · have c37_75 : 1 = 0 := (nI_eq (a := 1) (b := 0) (by omega) (by omega)).mp c37_75
                exact absurd c37_75 (by omega)
              · have c37_75 : ¬ (1 = 0) := fun h9 => c37_75 ((nI_eq (a := 1) (b := 0) (by omega) (by omega)).mpr h9)
                refine lv_iload_n hx hb dX6_as_40 rfl (lv_at hl 0 rfl) ?_
                refine zcsE (va_runS (As := [.int (nI 1)]) (rest := []) ⟨hx, hb, hml, hown, hts⟩ (c_X6_above l D cI cJ 1 (by first | rfl | assumption | omega) s.heap.size) (va_cwS 1 hts gX6_as_X6_above rfl rfl rfl (by decide +kernel) ⟨Nat.le_of_ble_eq_true rfl, Nat.le_of_ble_eq_true rfl⟩) (zpS hK hN hZ hP hD hS hA [] rfl (by decide)) rfl rfl hl.1 rfl (lv_room (Nat.le_of_ble_eq_true rfl)) dX6_as_41 ⟨Nat.zero_le _, Nat.zero_le _⟩) ?_
                refine zrw rfl ?_
                refine lv_istore_n (lv' := [(3, .int (nI 0)), (0, .ref h), (1, .int (nI j)), (2, .int (nI q))]) hx hb dX6_as_44 rfl hl (by decide) rfl (fun ls hl => ?_)
                refine lv_goto (tgt := 31) hx hb dX6_as_45 (by decide) ?_
                refine lv_iload_n hx hb dX6_as_31 rfl (lv_at hl 0 rfl) ?_
                refine lv_iload_n hx hb dX6_as_32 rfl (lv_at hl 3 rfl) ?_
                refine lv_icmp_eq (tgt := 48) hx hb dX6_as_33 (by decide) (fun c33_76 => ?_) (fun c33_76 => ?_)
                · have c33_76 : 0 = q := (nI_eq (a := 0) (b := q) (by omega) (by omega)).mp c33_76
                  refine lv_iload_n hx hb dX6_as_48 rfl (lv_at hl 0 rfl) ?_
                  refine lv_iload_n hx hb dX6_as_49 rfl (lv_at hl 3 rfl) ?_
                  refine lv_icmp_ne (tgt := 62) hx hb dX6_as_50 (by decide) (fun c50_77 => ?_) (fun c50_77 => ?_)
                  · have c50_77 : ¬ (0 = q) := fun h9 => c50_77 ((nI_eq (a := 0) (b := q) (by omega) (by omega)).mpr h9)
                    refine lv_aload_n hx hb dX6_as_62 rfl (lv_at hl 1 rfl) ?_
                    refine lv_iconst (v := nI 5) hx hb dX6_as_63 (by decide) ?_
                    refine zci (wr := [(hs, .inl (cI, 380, .inl S))]) (va_runV (As := [.int (nI 5)]) (rest := []) ⟨hx, hb, hml, hown, hts⟩ (c_X6_error l D cI cJ h hE fs E 5 (by first | rfl | assumption | omega) (by first | rfl | assumption | omega) s.heap.size) (cwV 1 hts gX6_as_X6_error rfl rfl rfl (by decide +kernel) ⟨Nat.le_of_ble_eq_true rfl, Nat.le_of_ble_eq_true rfl⟩) (zpV hK hN hZ hP hD hS hA [0, 2] rfl (by decide) 0 rfl rfl rfl) rfl rfl hl.1 rfl (lv_room (Nat.le_of_ble_eq_true rfl)) dX6_as_64 ⟨Nat.zero_le _, Nat.zero_le _⟩) hP hD hS hA [0, 2] [1] rfl rfl (by decide) (by decide) (fun r_80 w_79 H locs h_78 hP hD hS => ?_)
                    obtain ⟨rfl, rfl⟩ := h_78
                    have hP : va_P D vwCl [(hs, .inl (cI, 380, .inl S)), (h, .inr (6, fs)), (hE, .inl (cI, 7, .inl (upd E 5 (E 5 + nI 1))))] H := hP
                    have hD : va_D AA [(hs, .inl (cI, 380, .inl S)), (h, .inr (6, fs)), (hE, .inl (cI, 7, .inl (upd E 5 (E 5 + nI 1))))] := hD
                    have hP := hP.sub (ws' := [(h, .inr (6, fs)), (hs, .inl (cI, 380, .inl S)), (hE, .inl (cI, 7, .inl (upd E 5 (E 5 + nI 1))))]) [1, 0, 2] rfl
                    have hD := hD.sub (ws' := [(h, .inr (6, fs)), (hs, .inl (cI, 380, .inl S)), (hE, .inl (cI, 7, .inl (upd E 5 (E 5 + nI 1))))]) [1, 0, 2] (by decide) rfl
                    exact hret hP hD hS dX6_as_67 rfl (by rw [show zo_as S E n k (nI j) (nI q) = zerrE 5 S E from by rw [zo_as, if_pos ⟨by assumption, by assumption⟩, nI_clamp (show j < 2147483648 by omega), hkd, nI_clamp (show 4 < 2147483648 by omega), nI_clamp (show q < 2147483648 by omega), if_neg (by rw [bI9, bI_f (by omega)]; decide)] <;> rfl]; exact ⟨rfl, rfl⟩)
                  · have c50_77 : 0 = q := (nI_eq (a := 0) (b := q) (by omega) (by omega)).mp c50_77
                    refine lv_aload_n hx hb dX6_as_53 rfl (lv_at hl 1 rfl) ?_
                    refine lv_iload_n hx hb dX6_as_54 rfl (lv_at hl 2 rfl) ?_
                    refine lv_iconst (v := nI 1) hx hb dX6_as_55 (by decide) ?_
                    refine zcsE (va_runV (As := [.int (nI j), .int (nI 1)]) (rest := []) ⟨hx, hb, hml, hown, hts⟩ (c_X6_its l D cI cJ h hs fs S j 1 (by first | rfl | assumption | omega) (by first | rfl | assumption | omega) s.heap.size) (cwV 2 hts gX6_as_X6_its rfl rfl rfl (by decide +kernel) ⟨Nat.le_of_ble_eq_true rfl, Nat.le_of_ble_eq_true rfl⟩) (zpV hK hN hZ hP hD hS hA [0, 1] rfl (by decide) 0 rfl rfl rfl) rfl rfl hl.1 rfl (lv_room (Nat.le_of_ble_eq_true rfl)) dX6_as_56 ⟨Nat.zero_le _, Nat.zero_le _⟩) ?_
                    refine lv_goto (tgt := 67) hx hb dX6_as_59 (by decide) ?_
                    exact hret hP hD hS dX6_as_67 rfl (by rw [show zo_as S E n k (nI j) (nI q) = (S (8 + 4 * j + 1), S, E) from by rw [zo_as, if_pos ⟨by assumption, by assumption⟩, nI_clamp (show j < 2147483648 by omega), hkd, nI_clamp (show 4 < 2147483648 by omega), nI_clamp (show q < 2147483648 by omega), if_pos (bI_t (by omega))] <;> rfl]; exact ⟨rfl, rfl⟩)
                · have c33_76 : ¬ (0 = q) := fun h9 => c33_76 ((nI_eq (a := 0) (b := q) (by omega) (by omega)).mpr h9)
                  refine lv_iload_n hx hb dX6_as_36 rfl (lv_at hl 0 rfl) ?_
                  refine lv_if_eq (tgt := 48) hx hb dX6_as_37 (by decide) (fun c37_81 => ?_) (fun c37_81 => ?_)
                  · have c37_81 : 0 = 0 := (nI_eq (a := 0) (b := 0) (by omega) (by omega)).mp c37_81
                    refine lv_iload_n hx hb dX6_as_48 rfl (lv_at hl 0 rfl) ?_
                    refine lv_iload_n hx hb dX6_as_49 rfl (lv_at hl 3 rfl) ?_
                    refine lv_icmp_ne (tgt := 62) hx hb dX6_as_50 (by decide) (fun c50_82 => ?_) (fun c50_82 => ?_)
                    · have c50_82 : ¬ (0 = q) := fun h9 => c50_82 ((nI_eq (a := 0) (b := q) (by omega) (by omega)).mpr h9)
                      refine lv_aload_n hx hb dX6_as_62 rfl (lv_at hl 1 rfl) ?_
                      refine lv_iconst (v := nI 5) hx hb dX6_as_63 (by decide) ?_
                      refine zci (wr := [(hs, .inl (cI, 380, .inl S))]) (va_runV (As := [.int (nI 5)]) (rest := []) ⟨hx, hb, hml, hown, hts⟩ (c_X6_error l D cI cJ h hE fs E 5 (by first | rfl | assumption | omega) (by first | rfl | assumption | omega) s.heap.size) (cwV 1 hts gX6_as_X6_error rfl rfl rfl (by decide +kernel) ⟨Nat.le_of_ble_eq_true rfl, Nat.le_of_ble_eq_true rfl⟩) (zpV hK hN hZ hP hD hS hA [0, 2] rfl (by decide) 0 rfl rfl rfl) rfl rfl hl.1 rfl (lv_room (Nat.le_of_ble_eq_true rfl)) dX6_as_64 ⟨Nat.zero_le _, Nat.zero_le _⟩) hP hD hS hA [0, 2] [1] rfl rfl (by decide) (by decide) (fun r_85 w_84 H locs h_83 hP hD hS => ?_)
                      obtain ⟨rfl, rfl⟩ := h_83
                      have hP : va_P D vwCl [(hs, .inl (cI, 380, .inl S)), (h, .inr (6, fs)), (hE, .inl (cI, 7, .inl (upd E 5 (E 5 + nI 1))))] H := hP
                      have hD : va_D AA [(hs, .inl (cI, 380, .inl S)), (h, .inr (6, fs)), (hE, .inl (cI, 7, .inl (upd E 5 (E 5 + nI 1))))] := hD
                      have hP := hP.sub (ws' := [(h, .inr (6, fs)), (hs, .inl (cI, 380, .inl S)), (hE, .inl (cI, 7, .inl (upd E 5 (E 5 + nI 1))))]) [1, 0, 2] rfl
                      have hD := hD.sub (ws' := [(h, .inr (6, fs)), (hs, .inl (cI, 380, .inl S)), (hE, .inl (cI, 7, .inl (upd E 5 (E 5 + nI 1))))]) [1, 0, 2] (by decide) rfl
                      exact hret hP hD hS dX6_as_67 rfl (by rw [show zo_as S E n k (nI j) (nI q) = zerrE 5 S E from by rw [zo_as, if_pos ⟨by assumption, by assumption⟩, nI_clamp (show j < 2147483648 by omega), hkd, nI_clamp (show 4 < 2147483648 by omega), nI_clamp (show q < 2147483648 by omega), if_neg (by rw [bI9, bI_f (by omega)]; decide)] <;> rfl]; exact ⟨rfl, rfl⟩)
                    · have c50_82 : 0 = q := (nI_eq (a := 0) (b := q) (by omega) (by omega)).mp c50_82
                      refine lv_aload_n hx hb dX6_as_53 rfl (lv_at hl 1 rfl) ?_
                      refine lv_iload_n hx hb dX6_as_54 rfl (lv_at hl 2 rfl) ?_
                      refine lv_iconst (v := nI 1) hx hb dX6_as_55 (by decide) ?_
                      refine zcsE (va_runV (As := [.int (nI j), .int (nI 1)]) (rest := []) ⟨hx, hb, hml, hown, hts⟩ (c_X6_its l D cI cJ h hs fs S j 1 (by first | rfl | assumption | omega) (by first | rfl | assumption | omega) s.heap.size) (cwV 2 hts gX6_as_X6_its rfl rfl rfl (by decide +kernel) ⟨Nat.le_of_ble_eq_true rfl, Nat.le_of_ble_eq_true rfl⟩) (zpV hK hN hZ hP hD hS hA [0, 1] rfl (by decide) 0 rfl rfl rfl) rfl rfl hl.1 rfl (lv_room (Nat.le_of_ble_eq_true rfl)) dX6_as_56 ⟨Nat.zero_le _, Nat.zero_le _⟩) ?_
                      refine lv_goto (tgt := 67) hx hb dX6_as_59 (by decide) ?_
                      exact hret hP hD hS dX6_as_67 rfl (by rw [show zo_as S E n k (nI j) (nI q) = (S (8 + 4 * j + 1), S, E) from by rw [zo_as, if_pos ⟨by assumption, by assumption⟩, nI_clamp (show j < 2147483648 by omega), hkd, nI_clamp (show 4 < 2147483648 by omega), nI_clamp (show q < 2147483648 by omega), if_pos (bI_t (by omega))] <;> rfl]; exact ⟨rfl, rfl⟩)
                  · have c37_81 : ¬ (0 = 0) := fun h9 => c37_81 ((nI_eq (a := 0) (b := 0) (by omega) (by omega)).mpr h9)
                    exact absurd c37_81 (by omega)
      · subst h9
        refine lv_istore_n (lv' := [(3, .int (nI 5)), (0, .ref h), (1, .int (nI j)), (2, .int (nI q))]) hx hb dX6_as_30 rfl hl (by decide) rfl (fun ls hl => ?_)
        refine lv_iload_n hx hb dX6_as_31 rfl (lv_at hl 0 rfl) ?_
        refine lv_iload_n hx hb dX6_as_32 rfl (lv_at hl 3 rfl) ?_
        refine lv_icmp_eq (tgt := 48) hx hb dX6_as_33 (by decide) (fun c33_86 => ?_) (fun c33_86 => ?_)
        · have c33_86 : 5 = q := (nI_eq (a := 5) (b := q) (by omega) (by omega)).mp c33_86
          refine lv_iload_n hx hb dX6_as_48 rfl (lv_at hl 0 rfl) ?_
          refine lv_iload_n hx hb dX6_as_49 rfl (lv_at hl 3 rfl) ?_
          refine lv_icmp_ne (tgt := 62) hx hb dX6_as_50 (by decide) (fun c50_87 => ?_) (fun c50_87 => ?_)
          · have c50_87 : ¬ (5 = q) := fun h9 => c50_87 ((nI_eq (a := 5) (b := q) (by omega) (by omega)).mpr h9)
            refine lv_aload_n hx hb dX6_as_62 rfl (lv_at hl 1 rfl) ?_
            refine lv_iconst (v := nI 5) hx hb dX6_as_63 (by decide) ?_
            refine zci (wr := [(hs, .inl (cI, 380, .inl S))]) (va_runV (As := [.int (nI 5)]) (rest := []) ⟨hx, hb, hml, hown, hts⟩ (c_X6_error l D cI cJ h hE fs E 5 (by first | rfl | assumption | omega) (by first | rfl | assumption | omega) s.heap.size) (cwV 1 hts gX6_as_X6_error rfl rfl rfl (by decide +kernel) ⟨Nat.le_of_ble_eq_true rfl, Nat.le_of_ble_eq_true rfl⟩) (zpV hK hN hZ hP hD hS hA [0, 2] rfl (by decide) 0 rfl rfl rfl) rfl rfl hl.1 rfl (lv_room (Nat.le_of_ble_eq_true rfl)) dX6_as_64 ⟨Nat.zero_le _, Nat.zero_le _⟩) hP hD hS hA [0, 2] [1] rfl rfl (by decide) (by decide) (fun r_90 w_89 H locs h_88 hP hD hS => ?_)
            obtain ⟨rfl, rfl⟩ := h_88
            have hP : va_P D vwCl [(hs, .inl (cI, 380, .inl S)), (h, .inr (6, fs)), (hE, .inl (cI, 7, .inl (upd E 5 (E 5 + nI 1))))] H := hP
            have hD : va_D AA [(hs, .inl (cI, 380, .inl S)), (h, .inr (6, fs)), (hE, .inl (cI, 7, .inl (upd E 5 (E 5 + nI 1))))] := hD
            have hP := hP.sub (ws' := [(h, .inr (6, fs)), (hs, .inl (cI, 380, .inl S)), (hE, .inl (cI, 7, .inl (upd E 5 (E 5 + nI 1))))]) [1, 0, 2] rfl
            have hD := hD.sub (ws' := [(h, .inr (6, fs)), (hs, .inl (cI, 380, .inl S)), (hE, .inl (cI, 7, .inl (upd E 5 (E 5 + nI 1))))]) [1, 0, 2] (by decide) rfl
            exact hret hP hD hS dX6_as_67 rfl (by rw [show zo_as S E n k (nI j) (nI q) = zerrE 5 S E from by rw [zo_as, if_pos ⟨by assumption, by assumption⟩, nI_clamp (show j < 2147483648 by omega), hkd, nI_clamp (show 5 < 2147483648 by omega), nI_clamp (show q < 2147483648 by omega), if_neg (by rw [bI9, bI_f (by omega)]; decide)] <;> rfl]; exact ⟨rfl, rfl⟩)
          · have c50_87 : 5 = q := (nI_eq (a := 5) (b := q) (by omega) (by omega)).mp c50_87
            refine lv_aload_n hx hb dX6_as_53 rfl (lv_at hl 1 rfl) ?_
            refine lv_iload_n hx hb dX6_as_54 rfl (lv_at hl 2 rfl) ?_
            refine lv_iconst (v := nI 1) hx hb dX6_as_55 (by decide) ?_
            refine zcsE (va_runV (As := [.int (nI j), .int (nI 1)]) (rest := []) ⟨hx, hb, hml, hown, hts⟩ (c_X6_its l D cI cJ h hs fs S j 1 (by first | rfl | assumption | omega) (by first | rfl | assumption | omega) s.heap.size) (cwV 2 hts gX6_as_X6_its rfl rfl rfl (by decide +kernel) ⟨Nat.le_of_ble_eq_true rfl, Nat.le_of_ble_eq_true rfl⟩) (zpV hK hN hZ hP hD hS hA [0, 1] rfl (by decide) 0 rfl rfl rfl) rfl rfl hl.1 rfl (lv_room (Nat.le_of_ble_eq_true rfl)) dX6_as_56 ⟨Nat.zero_le _, Nat.zero_le _⟩) ?_
            refine lv_goto (tgt := 67) hx hb dX6_as_59 (by decide) ?_
            exact hret hP hD hS dX6_as_67 rfl (by rw [show zo_as S E n k (nI j) (nI q) = (S (8 + 4 * j + 1), S, E) from by rw [zo_as, if_pos ⟨by assumption, by assumption⟩, nI_clamp (show j < 2147483648 by omega), hkd, nI_clamp (show 5 < 2147483648 by omega), nI_clamp (show q < 2147483648 by omega), if_pos (bI_t (by omega))] <;> rfl]; exact ⟨rfl, rfl⟩)
        · have c33_86 : ¬ (5 = q) := fun h9 => c33_86 ((nI_eq (a := 5) (b := q) (by omega) (by omega)).mpr h9)
          refine lv_iload_n hx hb dX6_as_36 rfl (lv_at hl 0 rfl) ?_
          refine lv_if_eq (tgt := 48) hx hb dX6_as_37 (by decide) (fun c37_91 => ?_) (fun c37_91 => ?_)
          · have c37_91 : 5 = 0 := (nI_eq (a := 5) (b := 0) (by omega) (by omega)).mp c37_91
            exact absurd c37_91 (by omega)
          · have c37_91 : ¬ (5 = 0) := fun h9 => c37_91 ((nI_eq (a := 5) (b := 0) (by omega) (by omega)).mpr h9)
            refine lv_iload_n hx hb dX6_as_40 rfl (lv_at hl 0 rfl) ?_
            refine zcsE (va_runS (As := [.int (nI 5)]) (rest := []) ⟨hx, hb, hml, hown, hts⟩ (c_X6_above l D cI cJ 5 (by first | rfl | assumption | omega) s.heap.size) (va_cwS 1 hts gX6_as_X6_above rfl rfl rfl (by decide +kernel) ⟨Nat.le_of_ble_eq_true rfl, Nat.le_of_ble_eq_true rfl⟩) (zpS hK hN hZ hP hD hS hA [] rfl (by decide)) rfl rfl hl.1 rfl (lv_room (Nat.le_of_ble_eq_true rfl)) dX6_as_41 ⟨Nat.zero_le _, Nat.zero_le _⟩) ?_
            refine zrw rfl ?_
            refine lv_istore_n (lv' := [(3, .int (nI 2)), (0, .ref h), (1, .int (nI j)), (2, .int (nI q))]) hx hb dX6_as_44 rfl hl (by decide) rfl (fun ls hl => ?_)
            refine lv_goto (tgt := 31) hx hb dX6_as_45 (by decide) ?_
            refine lv_iload_n hx hb dX6_as_31 rfl (lv_at hl 0 rfl) ?_
            refine lv_iload_n hx hb dX6_as_32 rfl (lv_at hl 3 rfl) ?_
            refine lv_icmp_eq (tgt := 48) hx hb dX6_as_33 (by decide) (fun c33_92 => ?_) (fun c33_92 => ?_)
            · have c33_92 : 2 = q := (nI_eq (a := 2) (b := q) (by omega) (by omega)).mp c33_92
              refine lv_iload_n hx hb dX6_as_48 rfl (lv_at hl 0 rfl) ?_
              refine lv_iload_n hx hb dX6_as_49 rfl (lv_at hl 3 rfl) ?_
              refine lv_icmp_ne (tgt := 62) hx hb dX6_as_50 (by decide) (fun c50_93 => ?_) (fun c50_93 => ?_)
              · have c50_93 : ¬ (2 = q) := fun h9 => c50_93 ((nI_eq (a := 2) (b := q) (by omega) (by omega)).mpr h9)
                refine lv_aload_n hx hb dX6_as_62 rfl (lv_at hl 1 rfl) ?_
                refine lv_iconst (v := nI 5) hx hb dX6_as_63 (by decide) ?_
                refine zci (wr := [(hs, .inl (cI, 380, .inl S))]) (va_runV (As := [.int (nI 5)]) (rest := []) ⟨hx, hb, hml, hown, hts⟩ (c_X6_error l D cI cJ h hE fs E 5 (by first | rfl | assumption | omega) (by first | rfl | assumption | omega) s.heap.size) (cwV 1 hts gX6_as_X6_error rfl rfl rfl (by decide +kernel) ⟨Nat.le_of_ble_eq_true rfl, Nat.le_of_ble_eq_true rfl⟩) (zpV hK hN hZ hP hD hS hA [0, 2] rfl (by decide) 0 rfl rfl rfl) rfl rfl hl.1 rfl (lv_room (Nat.le_of_ble_eq_true rfl)) dX6_as_64 ⟨Nat.zero_le _, Nat.zero_le _⟩) hP hD hS hA [0, 2] [1] rfl rfl (by decide) (by decide) (fun r_96 w_95 H locs h_94 hP hD hS => ?_)
                obtain ⟨rfl, rfl⟩ := h_94
                have hP : va_P D vwCl [(hs, .inl (cI, 380, .inl S)), (h, .inr (6, fs)), (hE, .inl (cI, 7, .inl (upd E 5 (E 5 + nI 1))))] H := hP
                have hD : va_D AA [(hs, .inl (cI, 380, .inl S)), (h, .inr (6, fs)), (hE, .inl (cI, 7, .inl (upd E 5 (E 5 + nI 1))))] := hD
                have hP := hP.sub (ws' := [(h, .inr (6, fs)), (hs, .inl (cI, 380, .inl S)), (hE, .inl (cI, 7, .inl (upd E 5 (E 5 + nI 1))))]) [1, 0, 2] rfl
                have hD := hD.sub (ws' := [(h, .inr (6, fs)), (hs, .inl (cI, 380, .inl S)), (hE, .inl (cI, 7, .inl (upd E 5 (E 5 + nI 1))))]) [1, 0, 2] (by decide) rfl
                exact hret hP hD hS dX6_as_67 rfl (by rw [show zo_as S E n k (nI j) (nI q) = zerrE 5 S E from by rw [zo_as, if_pos ⟨by assumption, by assumption⟩, nI_clamp (show j < 2147483648 by omega), hkd, nI_clamp (show 5 < 2147483648 by omega), nI_clamp (show q < 2147483648 by omega), if_neg (by rw [bI9, bI_f (by omega)]; decide)] <;> rfl]; exact ⟨rfl, rfl⟩)
              · have c50_93 : 2 = q := (nI_eq (a := 2) (b := q) (by omega) (by omega)).mp c50_93
                refine lv_aload_n hx hb dX6_as_53 rfl (lv_at hl 1 rfl) ?_
                refine lv_iload_n hx hb dX6_as_54 rfl (lv_at hl 2 rfl) ?_
                refine lv_iconst (v := nI 1) hx hb dX6_as_55 (by decide) ?_
                refine zcsE (va_runV (As := [.int (nI j), .int (nI 1)]) (rest := []) ⟨hx, hb, hml, hown, hts⟩ (c_X6_its l D cI cJ h hs fs S j 1 (by first | rfl | assumption | omega) (by first | rfl | assumption | omega) s.heap.size) (cwV 2 hts gX6_as_X6_its rfl rfl rfl (by decide +kernel) ⟨Nat.le_of_ble_eq_true rfl, Nat.le_of_ble_eq_true rfl⟩) (zpV hK hN hZ hP hD hS hA [0, 1] rfl (by decide) 0 rfl rfl rfl) rfl rfl hl.1 rfl (lv_room (Nat.le_of_ble_eq_true rfl)) dX6_as_56 ⟨Nat.zero_le _, Nat.zero_le _⟩) ?_
                refine lv_goto (tgt := 67) hx hb dX6_as_59 (by decide) ?_
                exact hret hP hD hS dX6_as_67 rfl (by rw [show zo_as S E n k (nI j) (nI q) = (S (8 + 4 * j + 1), S, E) from by rw [zo_as, if_pos ⟨by assumption, by assumption⟩, nI_clamp (show j < 2147483648 by omega), hkd, nI_clamp (show 5 < 2147483648 by omega), nI_clamp (show q < 2147483648 by omega), if_pos (bI_t (by omega))] <;> rfl]; exact ⟨rfl, rfl⟩)
            · have c33_92 : ¬ (2 = q) := fun h9 => c33_92 ((nI_eq (a := 2) (b := q) (by omega) (by omega)).mpr h9)
              refine lv_iload_n hx hb dX6_as_36 rfl (lv_at hl 0 rfl) ?_
              refine lv_if_eq (tgt := 48) hx hb dX6_as_37 (by decide) (fun c37_97 => ?_) (fun c37_97 => ?_)
              · have c37_97 : 2 = 0 := (nI_eq (a := 2) (b := 0) (by omega) (by omega)).mp c37_97
                exact absurd c37_97 (by omega)
              · have c37_97 : ¬ (2 = 0) := fun h9 => c37_97 ((nI_eq (a := 2) (b := 0) (by omega) (by omega)).mpr h9)
                refine lv_iload_n hx hb dX6_as_40 rfl (lv_at hl 0 rfl) ?_
                refine zcsE (va_runS (As := [.int (nI 2)]) (rest := []) ⟨hx, hb, hml, hown, hts⟩ (c_X6_above l D cI cJ 2 (by first | rfl | assumption | omega) s.heap.size) (va_cwS 1 hts gX6_as_X6_above rfl rfl rfl (by decide +kernel) ⟨Nat.le_of_ble_eq_true rfl, Nat.le_of_ble_eq_true rfl⟩) (zpS hK hN hZ hP hD hS hA [] rfl (by decide)) rfl rfl hl.1 rfl (lv_room (Nat.le_of_ble_eq_true rfl)) dX6_as_41 ⟨Nat.zero_le _, Nat.zero_le _⟩) ?_
                refine zrw rfl ?_
                refine lv_istore_n (lv' := [(3, .int (nI 0)), (0, .ref h), (1, .int (nI j)), (2, .int (nI q))]) hx hb dX6_as_44 rfl hl (by decide) rfl (fun ls hl => ?_)
                refine lv_goto (tgt := 31) hx hb dX6_as_45 (by decide) ?_
                refine lv_iload_n hx hb dX6_as_31 rfl (lv_at hl 0 rfl) ?_
                refine lv_iload_n hx hb dX6_as_32 rfl (lv_at hl 3 rfl) ?_
                refine lv_icmp_eq (tgt := 48) hx hb dX6_as_33 (by decide) (fun c33_98 => ?_) (fun c33_98 => ?_)
                · have c33_98 : 0 = q := (nI_eq (a := 0) (b := q) (by omega) (by omega)).mp c33_98
                  refine lv_iload_n hx hb dX6_as_48 rfl (lv_at hl 0 rfl) ?_
                  refine lv_iload_n hx hb dX6_as_49 rfl (lv_at hl 3 rfl) ?_
                  refine lv_icmp_ne (tgt := 62) hx hb dX6_as_50 (by decide) (fun c50_99 => ?_) (fun c50_99 => ?_)
                  · have c50_99 : ¬ (0 = q) := fun h9 => c50_99 ((nI_eq (a := 0) (b := q) (by omega) (by omega)).mpr h9)
                    refine lv_aload_n hx hb dX6_as_62 rfl (lv_at hl 1 rfl) ?_
                    refine lv_iconst (v := nI 5) hx hb dX6_as_63 (by decide) ?_
                    refine zci (wr := [(hs, .inl (cI, 380, .inl S))]) (va_runV (As := [.int (nI 5)]) (rest := []) ⟨hx, hb, hml, hown, hts⟩ (c_X6_error l D cI cJ h hE fs E 5 (by first | rfl | assumption | omega) (by first | rfl | assumption | omega) s.heap.size) (cwV 1 hts gX6_as_X6_error rfl rfl rfl (by decide +kernel) ⟨Nat.le_of_ble_eq_true rfl, Nat.le_of_ble_eq_true rfl⟩) (zpV hK hN hZ hP hD hS hA [0, 2] rfl (by decide) 0 rfl rfl rfl) rfl rfl hl.1 rfl (lv_room (Nat.le_of_ble_eq_true rfl)) dX6_as_64 ⟨Nat.zero_le _, Nat.zero_le _⟩) hP hD hS hA [0, 2] [1] rfl rfl (by decide) (by decide) (fun r_102 w_101 H locs h_100 hP hD hS => ?_)
                    obtain ⟨rfl, rfl⟩ := h_100
                    have hP : va_P D vwCl [(hs, .inl (cI, 380, .inl S)), (h, .inr (6, fs)), (hE, .inl (cI, 7, .inl (upd E 5 (E 5 + nI 1))))] H := hP
                    have hD : va_D AA [(hs, .inl (cI, 380, .inl S)), (h, .inr (6, fs)), (hE, .inl (cI, 7, .inl (upd E 5 (E 5 + nI 1))))] := hD
                    have hP := hP.sub (ws' := [(h, .inr (6, fs)), (hs, .inl (cI, 380, .inl S)), (hE, .inl (cI, 7, .inl (upd E 5 (E 5 + nI 1))))]) [1, 0, 2] rfl
                    have hD := hD.sub (ws' := [(h, .inr (6, fs)), (hs, .inl (cI, 380, .inl S)), (hE, .inl (cI, 7, .inl (upd E 5 (E 5 + nI 1))))]) [1, 0, 2] (by decide) rfl
                    exact hret hP hD hS dX6_as_67 rfl (by rw [show zo_as S E n k (nI j) (nI q) = zerrE 5 S E from by rw [zo_as, if_pos ⟨by assumption, by assumption⟩, nI_clamp (show j < 2147483648 by omega), hkd, nI_clamp (show 5 < 2147483648 by omega), nI_clamp (show q < 2147483648 by omega), if_neg (by rw [bI9, bI_f (by omega)]; decide)] <;> rfl]; exact ⟨rfl, rfl⟩)
                  · have c50_99 : 0 = q := (nI_eq (a := 0) (b := q) (by omega) (by omega)).mp c50_99
                    refine lv_aload_n hx hb dX6_as_53 rfl (lv_at hl 1 rfl) ?_
                    refine lv_iload_n hx hb dX6_as_54 rfl (lv_at hl 2 rfl) ?_
                    refine lv_iconst (v := nI 1) hx hb dX6_as_55 (by decide) ?_
                    refine zcsE (va_runV (As := [.int (nI j), .int (nI 1)]) (rest := []) ⟨hx, hb, hml, hown, hts⟩ (c_X6_its l D cI cJ h hs fs S j 1 (by first | rfl | assumption | omega) (by first | rfl | assumption | omega) s.heap.size) (cwV 2 hts gX6_as_X6_its rfl rfl rfl (by decide +kernel) ⟨Nat.le_of_ble_eq_true rfl, Nat.le_of_ble_eq_true rfl⟩) (zpV hK hN hZ hP hD hS hA [0, 1] rfl (by decide) 0 rfl rfl rfl) rfl rfl hl.1 rfl (lv_room (Nat.le_of_ble_eq_true rfl)) dX6_as_56 ⟨Nat.zero_le _, Nat.zero_le _⟩) ?_
                    refine lv_goto (tgt := 67) hx hb dX6_as_59 (by decide) ?_
                    exact hret hP hD hS dX6_as_67 rfl (by rw [show zo_as S E n k (nI j) (nI q) = (S (8 + 4 * j + 1), S, E) from by rw [zo_as, if_pos ⟨by assumption, by assumption⟩, nI_clamp (show j < 2147483648 by omega), hkd, nI_clamp (show 5 < 2147483648 by omega), nI_clamp (show q < 2147483648 by omega), if_pos (bI_t (by omega))] <;> rfl]; exact ⟨rfl, rfl⟩)
                · have c33_98 : ¬ (0 = q) := fun h9 => c33_98 ((nI_eq (a := 0) (b := q) (by omega) (by omega)).mpr h9)
                  refine lv_iload_n hx hb dX6_as_36 rfl (lv_at hl 0 rfl) ?_
                  refine lv_if_eq (tgt := 48) hx hb dX6_as_37 (by decide) (fun c37_103 => ?_) (fun c37_103 => ?_)
                  · have c37_103 : 0 = 0 := (nI_eq (a := 0) (b := 0) (by omega) (by omega)).mp c37_103
                    refine lv_iload_n hx hb dX6_as_48 rfl (lv_at hl 0 rfl) ?_
                    refine lv_iload_n hx hb dX6_as_49 rfl (lv_at hl 3 rfl) ?_
                    refine lv_icmp_ne (tgt := 62) hx hb dX6_as_50 (by decide) (fun c50_104 => ?_) (fun c50_104 => ?_)
                    · have c50_104 : ¬ (0 = q) := fun h9 => c50_104 ((nI_eq (a := 0) (b := q) (by omega) (by omega)).mpr h9)
                      refine lv_aload_n hx hb dX6_as_62 rfl (lv_at hl 1 rfl) ?_
                      refine lv_iconst (v := nI 5) hx hb dX6_as_63 (by decide) ?_
                      refine zci (wr := [(hs, .inl (cI, 380, .inl S))]) (va_runV (As := [.int (nI 5)]) (rest := []) ⟨hx, hb, hml, hown, hts⟩ (c_X6_error l D cI cJ h hE fs E 5 (by first | rfl | assumption | omega) (by first | rfl | assumption | omega) s.heap.size) (cwV 1 hts gX6_as_X6_error rfl rfl rfl (by decide +kernel) ⟨Nat.le_of_ble_eq_true rfl, Nat.le_of_ble_eq_true rfl⟩) (zpV hK hN hZ hP hD hS hA [0, 2] rfl (by decide) 0 rfl rfl rfl) rfl rfl hl.1 rfl (lv_room (Nat.le_of_ble_eq_true rfl)) dX6_as_64 ⟨Nat.zero_le _, Nat.zero_le _⟩) hP hD hS hA [0, 2] [1] rfl rfl (by decide) (by decide) (fun r_107 w_106 H locs h_105 hP hD hS => ?_)
                      obtain ⟨rfl, rfl⟩ := h_105
                      have hP : va_P D vwCl [(hs, .inl (cI, 380, .inl S)), (h, .inr (6, fs)), (hE, .inl (cI, 7, .inl (upd E 5 (E 5 + nI 1))))] H := hP
                      have hD : va_D AA [(hs, .inl (cI, 380, .inl S)), (h, .inr (6, fs)), (hE, .inl (cI, 7, .inl (upd E 5 (E 5 + nI 1))))] := hD
                      have hP := hP.sub (ws' := [(h, .inr (6, fs)), (hs, .inl (cI, 380, .inl S)), (hE, .inl (cI, 7, .inl (upd E 5 (E 5 + nI 1))))]) [1, 0, 2] rfl
                      have hD := hD.sub (ws' := [(h, .inr (6, fs)), (hs, .inl (cI, 380, .inl S)), (hE, .inl (cI, 7, .inl (upd E 5 (E 5 + nI 1))))]) [1, 0, 2] (by decide) rfl
                      exact hret hP hD hS dX6_as_67 rfl (by rw [show zo_as S E n k (nI j) (nI q) = zerrE 5 S E from by rw [zo_as, if_pos ⟨by assumption, by assumption⟩, nI_clamp (show j < 2147483648 by omega), hkd, nI_clamp (show 5 < 2147483648 by omega), nI_clamp (show q < 2147483648 by omega), if_neg (by rw [bI9, bI_f (by omega)]; decide)] <;> rfl]; exact ⟨rfl, rfl⟩)
                    · have c50_104 : 0 = q := (nI_eq (a := 0) (b := q) (by omega) (by omega)).mp c50_104
                      refine lv_aload_n hx hb dX6_as_53 rfl (lv_at hl 1 rfl) ?_
                      refine lv_iload_n hx hb dX6_as_54 rfl (lv_at hl 2 rfl) ?_
                      refine lv_iconst (v := nI 1) hx hb dX6_as_55 (by decide) ?_
                      refine zcsE (va_runV (As := [.int (nI j), .int (nI 1)]) (rest := []) ⟨hx, hb, hml, hown, hts⟩ (c_X6_its l D cI cJ h hs fs S j 1 (by first | rfl | assumption | omega) (by first | rfl | assumption | omega) s.heap.size) (cwV 2 hts gX6_as_X6_its rfl rfl rfl (by decide +kernel) ⟨Nat.le_of_ble_eq_true rfl, Nat.le_of_ble_eq_true rfl⟩) (zpV hK hN hZ hP hD hS hA [0, 1] rfl (by decide) 0 rfl rfl rfl) rfl rfl hl.1 rfl (lv_room (Nat.le_of_ble_eq_true rfl)) dX6_as_56 ⟨Nat.zero_le _, Nat.zero_le _⟩) ?_
                      refine lv_goto (tgt := 67) hx hb dX6_as_59 (by decide) ?_
                      exact hret hP hD hS dX6_as_67 rfl (by rw [show zo_as S E n k (nI j) (nI q) = (S (8 + 4 * j + 1), S, E) from by rw [zo_as, if_pos ⟨by assumption, by assumption⟩, nI_clamp (show j < 2147483648 by omega), hkd, nI_clamp (show 5 < 2147483648 by omega), nI_clamp (show q < 2147483648 by omega), if_pos (bI_t (by omega))] <;> rfl]; exact ⟨rfl, rfl⟩)
                  · have c37_103 : ¬ (0 = 0) := fun h9 => c37_103 ((nI_eq (a := 0) (b := 0) (by omega) (by omega)).mpr h9)
                    exact absurd c37_103 (by omega)
      · subst h9
        refine lv_istore_n (lv' := [(3, .int (nI 6)), (0, .ref h), (1, .int (nI j)), (2, .int (nI q))]) hx hb dX6_as_30 rfl hl (by decide) rfl (fun ls hl => ?_)
        refine lv_iload_n hx hb dX6_as_31 rfl (lv_at hl 0 rfl) ?_
        refine lv_iload_n hx hb dX6_as_32 rfl (lv_at hl 3 rfl) ?_
        refine lv_icmp_eq (tgt := 48) hx hb dX6_as_33 (by decide) (fun c33_108 => ?_) (fun c33_108 => ?_)
        · have c33_108 : 6 = q := (nI_eq (a := 6) (b := q) (by omega) (by omega)).mp c33_108
          refine lv_iload_n hx hb dX6_as_48 rfl (lv_at hl 0 rfl) ?_
          refine lv_iload_n hx hb dX6_as_49 rfl (lv_at hl 3 rfl) ?_
          refine lv_icmp_ne (tgt := 62) hx hb dX6_as_50 (by decide) (fun c50_109 => ?_) (fun c50_109 => ?_)
          · have c50_109 : ¬ (6 = q) := fun h9 => c50_109 ((nI_eq (a := 6) (b := q) (by omega) (by omega)).mpr h9)
            refine lv_aload_n hx hb dX6_as_62 rfl (lv_at hl 1 rfl) ?_
            refine lv_iconst (v := nI 5) hx hb dX6_as_63 (by decide) ?_
            refine zci (wr := [(hs, .inl (cI, 380, .inl S))]) (va_runV (As := [.int (nI 5)]) (rest := []) ⟨hx, hb, hml, hown, hts⟩ (c_X6_error l D cI cJ h hE fs E 5 (by first | rfl | assumption | omega) (by first | rfl | assumption | omega) s.heap.size) (cwV 1 hts gX6_as_X6_error rfl rfl rfl (by decide +kernel) ⟨Nat.le_of_ble_eq_true rfl, Nat.le_of_ble_eq_true rfl⟩) (zpV hK hN hZ hP hD hS hA [0, 2] rfl (by decide) 0 rfl rfl rfl) rfl rfl hl.1 rfl (lv_room (Nat.le_of_ble_eq_true rfl)) dX6_as_64 ⟨Nat.zero_le _, Nat.zero_le _⟩) hP hD hS hA [0, 2] [1] rfl rfl (by decide) (by decide) (fun r_112 w_111 H locs h_110 hP hD hS => ?_)
            obtain ⟨rfl, rfl⟩ := h_110
            have hP : va_P D vwCl [(hs, .inl (cI, 380, .inl S)), (h, .inr (6, fs)), (hE, .inl (cI, 7, .inl (upd E 5 (E 5 + nI 1))))] H := hP
            have hD : va_D AA [(hs, .inl (cI, 380, .inl S)), (h, .inr (6, fs)), (hE, .inl (cI, 7, .inl (upd E 5 (E 5 + nI 1))))] := hD
            have hP := hP.sub (ws' := [(h, .inr (6, fs)), (hs, .inl (cI, 380, .inl S)), (hE, .inl (cI, 7, .inl (upd E 5 (E 5 + nI 1))))]) [1, 0, 2] rfl
            have hD := hD.sub (ws' := [(h, .inr (6, fs)), (hs, .inl (cI, 380, .inl S)), (hE, .inl (cI, 7, .inl (upd E 5 (E 5 + nI 1))))]) [1, 0, 2] (by decide) rfl
            exact hret hP hD hS dX6_as_67 rfl (by rw [show zo_as S E n k (nI j) (nI q) = zerrE 5 S E from by rw [zo_as, if_pos ⟨by assumption, by assumption⟩, nI_clamp (show j < 2147483648 by omega), hkd, nI_clamp (show 6 < 2147483648 by omega), nI_clamp (show q < 2147483648 by omega), if_neg (by rw [bI9, bI_f (by omega)]; decide)] <;> rfl]; exact ⟨rfl, rfl⟩)
          · have c50_109 : 6 = q := (nI_eq (a := 6) (b := q) (by omega) (by omega)).mp c50_109
            refine lv_aload_n hx hb dX6_as_53 rfl (lv_at hl 1 rfl) ?_
            refine lv_iload_n hx hb dX6_as_54 rfl (lv_at hl 2 rfl) ?_
            refine lv_iconst (v := nI 1) hx hb dX6_as_55 (by decide) ?_
            refine zcsE (va_runV (As := [.int (nI j), .int (nI 1)]) (rest := []) ⟨hx, hb, hml, hown, hts⟩ (c_X6_its l D cI cJ h hs fs S j 1 (by first | rfl | assumption | omega) (by first | rfl | assumption | omega) s.heap.size) (cwV 2 hts gX6_as_X6_its rfl rfl rfl (by decide +kernel) ⟨Nat.le_of_ble_eq_true rfl, Nat.le_of_ble_eq_true rfl⟩) (zpV hK hN hZ hP hD hS hA [0, 1] rfl (by decide) 0 rfl rfl rfl) rfl rfl hl.1 rfl (lv_room (Nat.le_of_ble_eq_true rfl)) dX6_as_56 ⟨Nat.zero_le _, Nat.zero_le _⟩) ?_
            refine lv_goto (tgt := 67) hx hb dX6_as_59 (by decide) ?_
            exact hret hP hD hS dX6_as_67 rfl (by rw [show zo_as S E n k (nI j) (nI q) = (S (8 + 4 * j + 1), S, E) from by rw [zo_as, if_pos ⟨by assumption, by assumption⟩, nI_clamp (show j < 2147483648 by omega), hkd, nI_clamp (show 6 < 2147483648 by omega), nI_clamp (show q < 2147483648 by omega), if_pos (bI_t (by omega))] <;> rfl]; exact ⟨rfl, rfl⟩)
        · have c33_108 : ¬ (6 = q) := fun h9 => c33_108 ((nI_eq (a := 6) (b := q) (by omega) (by omega)).mpr h9)
          refine lv_iload_n hx hb dX6_as_36 rfl (lv_at hl 0 rfl) ?_
          refine lv_if_eq (tgt := 48) hx hb dX6_as_37 (by decide) (fun c37_113 => ?_) (fun c37_113 => ?_)
          · have c37_113 : 6 = 0 := (nI_eq (a := 6) (b := 0) (by omega) (by omega)).mp c37_113
            exact absurd c37_113 (by omega)
          · have c37_113 : ¬ (6 = 0) := fun h9 => c37_113 ((nI_eq (a := 6) (b := 0) (by omega) (by omega)).mpr h9)
            refine lv_iload_n hx hb dX6_as_40 rfl (lv_at hl 0 rfl) ?_
            refine zcsE (va_runS (As := [.int (nI 6)]) (rest := []) ⟨hx, hb, hml, hown, hts⟩ (c_X6_above l D cI cJ 6 (by first | rfl | assumption | omega) s.heap.size) (va_cwS 1 hts gX6_as_X6_above rfl rfl rfl (by decide +kernel) ⟨Nat.le_of_ble_eq_true rfl, Nat.le_of_ble_eq_true rfl⟩) (zpS hK hN hZ hP hD hS hA [] rfl (by decide)) rfl rfl hl.1 rfl (lv_room (Nat.le_of_ble_eq_true rfl)) dX6_as_41 ⟨Nat.zero_le _, Nat.zero_le _⟩) ?_
            refine zrw rfl ?_
            refine lv_istore_n (lv' := [(3, .int (nI 0)), (0, .ref h), (1, .int (nI j)), (2, .int (nI q))]) hx hb dX6_as_44 rfl hl (by decide) rfl (fun ls hl => ?_)
            refine lv_goto (tgt := 31) hx hb dX6_as_45 (by decide) ?_
            refine lv_iload_n hx hb dX6_as_31 rfl (lv_at hl 0 rfl) ?_
            refine lv_iload_n hx hb dX6_as_32 rfl (lv_at hl 3 rfl) ?_
            refine lv_icmp_eq (tgt := 48) hx hb dX6_as_33 (by decide) (fun c33_114 => ?_) (fun c33_114 => ?_)
            · have c33_114 : 0 = q := (nI_eq (a := 0) (b := q) (by omega) (by omega)).mp c33_114
              refine lv_iload_n hx hb dX6_as_48 rfl (lv_at hl 0 rfl) ?_
              refine lv_iload_n hx hb dX6_as_49 rfl (lv_at hl 3 rfl) ?_
              refine lv_icmp_ne (tgt := 62) hx hb dX6_as_50 (by decide) (fun c50_115 => ?_) (fun c50_115 => ?_)
              · have c50_115 : ¬ (0 = q) := fun h9 => c50_115 ((nI_eq (a := 0) (b := q) (by omega) (by omega)).mpr h9)
                refine lv_aload_n hx hb dX6_as_62 rfl (lv_at hl 1 rfl) ?_
                refine lv_iconst (v := nI 5) hx hb dX6_as_63 (by decide) ?_
                refine zci (wr := [(hs, .inl (cI, 380, .inl S))]) (va_runV (As := [.int (nI 5)]) (rest := []) ⟨hx, hb, hml, hown, hts⟩ (c_X6_error l D cI cJ h hE fs E 5 (by first | rfl | assumption | omega) (by first | rfl | assumption | omega) s.heap.size) (cwV 1 hts gX6_as_X6_error rfl rfl rfl (by decide +kernel) ⟨Nat.le_of_ble_eq_true rfl, Nat.le_of_ble_eq_true rfl⟩) (zpV hK hN hZ hP hD hS hA [0, 2] rfl (by decide) 0 rfl rfl rfl) rfl rfl hl.1 rfl (lv_room (Nat.le_of_ble_eq_true rfl)) dX6_as_64 ⟨Nat.zero_le _, Nat.zero_le _⟩) hP hD hS hA [0, 2] [1] rfl rfl (by decide) (by decide) (fun r_118 w_117 H locs h_116 hP hD hS => ?_)
                obtain ⟨rfl, rfl⟩ := h_116
                have hP : va_P D vwCl [(hs, .inl (cI, 380, .inl S)), (h, .inr (6, fs)), (hE, .inl (cI, 7, .inl (upd E 5 (E 5 + nI 1))))] H := hP
                have hD : va_D AA [(hs, .inl (cI, 380, .inl S)), (h, .inr (6, fs)), (hE, .inl (cI, 7, .inl (upd E 5 (E 5 + nI 1))))] := hD
                have hP := hP.sub (ws' := [(h, .inr (6, fs)), (hs, .inl (cI, 380, .inl S)), (hE, .inl (cI, 7, .inl (upd E 5 (E 5 + nI 1))))]) [1, 0, 2] rfl
                have hD := hD.sub (ws' := [(h, .inr (6, fs)), (hs, .inl (cI, 380, .inl S)), (hE, .inl (cI, 7, .inl (upd E 5 (E 5 + nI 1))))]) [1, 0, 2] (by decide) rfl
                exact hret hP hD hS dX6_as_67 rfl (by rw [show zo_as S E n k (nI j) (nI q) = zerrE 5 S E from by rw [zo_as, if_pos ⟨by assumption, by assumption⟩, nI_clamp (show j < 2147483648 by omega), hkd, nI_clamp (show 6 < 2147483648 by omega), nI_clamp (show q < 2147483648 by omega), if_neg (by rw [bI9, bI_f (by omega)]; decide)] <;> rfl]; exact ⟨rfl, rfl⟩)
              · have c50_115 : 0 = q := (nI_eq (a := 0) (b := q) (by omega) (by omega)).mp c50_115
                refine lv_aload_n hx hb dX6_as_53 rfl (lv_at hl 1 rfl) ?_
                refine lv_iload_n hx hb dX6_as_54 rfl (lv_at hl 2 rfl) ?_
                refine lv_iconst (v := nI 1) hx hb dX6_as_55 (by decide) ?_
                refine zcsE (va_runV (As := [.int (nI j), .int (nI 1)]) (rest := []) ⟨hx, hb, hml, hown, hts⟩ (c_X6_its l D cI cJ h hs fs S j 1 (by first | rfl | assumption | omega) (by first | rfl | assumption | omega) s.heap.size) (cwV 2 hts gX6_as_X6_its rfl rfl rfl (by decide +kernel) ⟨Nat.le_of_ble_eq_true rfl, Nat.le_of_ble_eq_true rfl⟩) (zpV hK hN hZ hP hD hS hA [0, 1] rfl (by decide) 0 rfl rfl rfl) rfl rfl hl.1 rfl (lv_room (Nat.le_of_ble_eq_true rfl)) dX6_as_56 ⟨Nat.zero_le _, Nat.zero_le _⟩) ?_
                refine lv_goto (tgt := 67) hx hb dX6_as_59 (by decide) ?_
                exact hret hP hD hS dX6_as_67 rfl (by rw [show zo_as S E n k (nI j) (nI q) = (S (8 + 4 * j + 1), S, E) from by rw [zo_as, if_pos ⟨by assumption, by assumption⟩, nI_clamp (show j < 2147483648 by omega), hkd, nI_clamp (show 6 < 2147483648 by omega), nI_clamp (show q < 2147483648 by omega), if_pos (bI_t (by omega))] <;> rfl]; exact ⟨rfl, rfl⟩)
            · have c33_114 : ¬ (0 = q) := fun h9 => c33_114 ((nI_eq (a := 0) (b := q) (by omega) (by omega)).mpr h9)
              refine lv_iload_n hx hb dX6_as_36 rfl (lv_at hl 0 rfl) ?_
              refine lv_if_eq (tgt := 48) hx hb dX6_as_37 (by decide) (fun c37_119 => ?_) (fun c37_119 => ?_)
              · have c37_119 : 0 = 0 := (nI_eq (a := 0) (b := 0) (by omega) (by omega)).mp c37_119
                refine lv_iload_n hx hb dX6_as_48 rfl (lv_at hl 0 rfl) ?_
                refine lv_iload_n hx hb dX6_as_49 rfl (lv_at hl 3 rfl) ?_
                refine lv_icmp_ne (tgt := 62) hx hb dX6_as_50 (by decide) (fun c50_120 => ?_) (fun c50_120 => ?_)
                · have c50_120 : ¬ (0 = q) := fun h9 => c50_120 ((nI_eq (a := 0) (b := q) (by omega) (by omega)).mpr h9)
                  refine lv_aload_n hx hb dX6_as_62 rfl (lv_at hl 1 rfl) ?_
                  refine lv_iconst (v := nI 5) hx hb dX6_as_63 (by decide) ?_
                  refine zci (wr := [(hs, .inl (cI, 380, .inl S))]) (va_runV (As := [.int (nI 5)]) (rest := []) ⟨hx, hb, hml, hown, hts⟩ (c_X6_error l D cI cJ h hE fs E 5 (by first | rfl | assumption | omega) (by first | rfl | assumption | omega) s.heap.size) (cwV 1 hts gX6_as_X6_error rfl rfl rfl (by decide +kernel) ⟨Nat.le_of_ble_eq_true rfl, Nat.le_of_ble_eq_true rfl⟩) (zpV hK hN hZ hP hD hS hA [0, 2] rfl (by decide) 0 rfl rfl rfl) rfl rfl hl.1 rfl (lv_room (Nat.le_of_ble_eq_true rfl)) dX6_as_64 ⟨Nat.zero_le _, Nat.zero_le _⟩) hP hD hS hA [0, 2] [1] rfl rfl (by decide) (by decide) (fun r_123 w_122 H locs h_121 hP hD hS => ?_)
                  obtain ⟨rfl, rfl⟩ := h_121
                  have hP : va_P D vwCl [(hs, .inl (cI, 380, .inl S)), (h, .inr (6, fs)), (hE, .inl (cI, 7, .inl (upd E 5 (E 5 + nI 1))))] H := hP
                  have hD : va_D AA [(hs, .inl (cI, 380, .inl S)), (h, .inr (6, fs)), (hE, .inl (cI, 7, .inl (upd E 5 (E 5 + nI 1))))] := hD
                  have hP := hP.sub (ws' := [(h, .inr (6, fs)), (hs, .inl (cI, 380, .inl S)), (hE, .inl (cI, 7, .inl (upd E 5 (E 5 + nI 1))))]) [1, 0, 2] rfl
                  have hD := hD.sub (ws' := [(h, .inr (6, fs)), (hs, .inl (cI, 380, .inl S)), (hE, .inl (cI, 7, .inl (upd E 5 (E 5 + nI 1))))]) [1, 0, 2] (by decide) rfl
                  exact hret hP hD hS dX6_as_67 rfl (by rw [show zo_as S E n k (nI j) (nI q) = zerrE 5 S E from by rw [zo_as, if_pos ⟨by assumption, by assumption⟩, nI_clamp (show j < 2147483648 by omega), hkd, nI_clamp (show 6 < 2147483648 by omega), nI_clamp (show q < 2147483648 by omega), if_neg (by rw [bI9, bI_f (by omega)]; decide)] <;> rfl]; exact ⟨rfl, rfl⟩)
                · have c50_120 : 0 = q := (nI_eq (a := 0) (b := q) (by omega) (by omega)).mp c50_120
                  refine lv_aload_n hx hb dX6_as_53 rfl (lv_at hl 1 rfl) ?_
                  refine lv_iload_n hx hb dX6_as_54 rfl (lv_at hl 2 rfl) ?_
                  refine lv_iconst (v := nI 1) hx hb dX6_as_55 (by decide) ?_
                  refine zcsE (va_runV (As := [.int (nI j), .int (nI 1)]) (rest := []) ⟨hx, hb, hml, hown, hts⟩ (c_X6_its l D cI cJ h hs fs S j 1 (by first | rfl | assumption | omega) (by first | rfl | assumption | omega) s.heap.size) (cwV 2 hts gX6_as_X6_its rfl rfl rfl (by decide +kernel) ⟨Nat.le_of_ble_eq_true rfl, Nat.le_of_ble_eq_true rfl⟩) (zpV hK hN hZ hP hD hS hA [0, 1] rfl (by decide) 0 rfl rfl rfl) rfl rfl hl.1 rfl (lv_room (Nat.le_of_ble_eq_true rfl)) dX6_as_56 ⟨Nat.zero_le _, Nat.zero_le _⟩) ?_
                  refine lv_goto (tgt := 67) hx hb dX6_as_59 (by decide) ?_
                  exact hret hP hD hS dX6_as_67 rfl (by rw [show zo_as S E n k (nI j) (nI q) = (S (8 + 4 * j + 1), S, E) from by rw [zo_as, if_pos ⟨by assumption, by assumption⟩, nI_clamp (show j < 2147483648 by omega), hkd, nI_clamp (show 6 < 2147483648 by omega), nI_clamp (show q < 2147483648 by omega), if_pos (bI_t (by omega))] <;> rfl]; exact ⟨rfl, rfl⟩)
              · have c37_119 : ¬ (0 = 0) := fun h9 => c37_119 ((nI_eq (a := 0) (b := 0) (by omega) (by omega)).mpr h9)
                exact absurd c37_119 (by omega)
    · have c15_5 := bI_0.mp c15_5
      refine lv_aload_n hx hb dX6_as_18 rfl (lv_at hl 0 rfl) ?_
      refine lv_iconst (v := nI 1) hx hb dX6_as_19 (by decide) ?_
      refine zci (wr := [(hs, .inl (cI, 380, .inl S))]) (va_runV (As := [.int (nI 1)]) (rest := []) ⟨hx, hb, hml, hown, hts⟩ (c_X6_error l D cI cJ h hE fs E 1 (by first | rfl | assumption | omega) (by first | rfl | assumption | omega) s.heap.size) (cwV 1 hts gX6_as_X6_error rfl rfl rfl (by decide +kernel) ⟨Nat.le_of_ble_eq_true rfl, Nat.le_of_ble_eq_true rfl⟩) (zpV hK hN hZ hP hD hS hA [0, 2] rfl (by decide) 0 rfl rfl rfl) rfl rfl hl.1 rfl (lv_room (Nat.le_of_ble_eq_true rfl)) dX6_as_20 ⟨Nat.zero_le _, Nat.zero_le _⟩) hP hD hS hA [0, 2] [1] rfl rfl (by decide) (by decide) (fun r_126 w_125 H locs h_124 hP hD hS => ?_)
      obtain ⟨rfl, rfl⟩ := h_124
      have hP : va_P D vwCl [(hs, .inl (cI, 380, .inl S)), (h, .inr (6, fs)), (hE, .inl (cI, 7, .inl (upd E 1 (E 1 + nI 1))))] H := hP
      have hD : va_D AA [(hs, .inl (cI, 380, .inl S)), (h, .inr (6, fs)), (hE, .inl (cI, 7, .inl (upd E 1 (E 1 + nI 1))))] := hD
      have hP := hP.sub (ws' := [(h, .inr (6, fs)), (hs, .inl (cI, 380, .inl S)), (hE, .inl (cI, 7, .inl (upd E 1 (E 1 + nI 1))))]) [1, 0, 2] rfl
      have hD := hD.sub (ws' := [(h, .inr (6, fs)), (hs, .inl (cI, 380, .inl S)), (hE, .inl (cI, 7, .inl (upd E 1 (E 1 + nI 1))))]) [1, 0, 2] (by decide) rfl
      exact hret hP hD hS dX6_as_23 rfl (by rw [show zo_as S E n k (nI j) kind = zerrE 1 S E from by rw [zo_as, if_neg (by intro h9; first | exact absurd h9.1 (by assumption) | exact absurd h9.2 (by assumption))] <;> rfl]; exact ⟨rfl, rfl⟩)
set_option maxHeartbeats 4000000 in
set_option maxRecDepth 100000 in
theorem c_X5_as (l : Launch) (D : va_G) (cI cJ : ClassId) (h : Nat) (hE : Nat) (hS9 : Nat) (fs : List Value) (S : Nat → Int32) (E : Nat → Int32) (n : Nat) (k : Nat) (ft : List Value) (hk : Nat) (hm : Nat) (climber : Int32) (kind : Int32) (hU0 : fs[0]? = some (.ref hS9)) (hU7 : fs[7]? = some (.ref hE)) (hn1 : S 1 = nI n) (hk6 : S 6 = nI k) (hn4 : 4 ≤ n) (hn14 : n ≤ 14) (hkle : k ≤ 6) (hft4 : ft[4]? = some (.int (nI k))) (hft5 : ft[5]? = some (.ref hk)) (hft6 : ft[6]? = some (.ref hm)) (hcl : ∀ c, c < k → ∃ kd : Nat, S (8 + 4 * c + 0) = nI kd ∧ kd < 7) : zMi l yX5_as wsX5_as ({ frames := 2, cells := 0, slots := 0, locals := 45 } : Room) D [(cI, .int), (cJ, .array .int)] [.ref h, .int climber, .int kind] [(h, .inr (5, fs)), (hS9, .inr (3, ft)), (hk, .inl (cI, 6, .inl ((fun c => S (8 + 4 * c + 0))))), (hm, .inl (cI, 6, .inl ((fun c => S (8 + 4 * c + 1))))), (hE, .inl (cI, 7, .inl E))] (fun r w => r = (zo_as S E n k climber kind).1 ∧ w = [(h, .inr (5, fs)), (hS9, .inr (3, ft)), (hk, .inl (cI, 6, .inl ((fun c => S (8 + 4 * c + 0))))), (hm, .inl (cI, 6, .inl ((fun c => S (8 + 4 * c + 1))))), (hE, .inl (cI, 7, .inl ((zo_as S E n k climber kind).2.2)))]) := by
  refine zMi.start (cc := cX5_as) (maxL := 3) (rt := .int) (by first | decide | decide +kernel) rfl (Nat.le_of_ble_eq_true rfl) ?_
  intro pg ev s mt args below meth cd ls AA QQ ⟨hx, hb, hml, hr, hlocks, hown, hts, hK, hN, hZ, hP, hD, hA, hS, hl⟩ hret
  have hown : s.vm.findClass RX5 = some mt.cls := hown
  have hl : lv_has ls 3 [(0, .ref h), (1, .int climber), (2, .int kind)] := hl
  have hin3 : ∀ w ∈ wsX30, w ∈ wsX5_as := fun w h => List.mem_cons_of_mem _ (List.mem_append_right _ (h))
  have hin5 : ∀ w ∈ wsX50, w ∈ wsX5_as := fun w h => List.mem_cons_of_mem _ (List.mem_append_left _ (List.mem_append_right _ (h)))
  refine lv_aload_n hx hb dX5_as_0 rfl (lv_at hl 0 rfl) ?_
  refine va_get (ci := 5) (v := .ref hS9) (C := RX5) (T := TX5) (N := 9) hx hb hts hin5 hown hK hP 0 rfl rfl 0 (by decide) (hts (.fieldLink RX5 12 "UpAllRound" "now" "LUpAllRound$Stair;") (List.mem_of_getElem? (i := 1) rfl)) (fun _ h9 => h9) hU0 dX5_as_1 ?_
  refine lv_iload_n hx hb dX5_as_4 rfl (lv_at hl 1 rfl) ?_
  refine zcsE (va_runVN (As := [.int climber]) (rest := []) ⟨hx, hb, hml, hown, hts⟩ (c_X3_hasClimber l D cI cJ hS9 ft k climber (by first | rfl | assumption | omega) (by first | rfl | assumption | omega) s.heap.size) ⟨va_cnB 1 hts gX5_as_X3_hasClimber_n91 rfl rfl rfl (hN (.methodLinkNest "UpAllRound" 91 yX3_hasClimber "UpAllRound") (List.mem_of_getElem? (i := 33) rfl)) (hts (.initialized RX3) (List.mem_of_getElem? (i := 3) rfl)) (by decide +kernel) ⟨Nat.le_of_ble_eq_true rfl, Nat.le_of_ble_eq_true rfl⟩, (hts (.instanceMethod yX3_hasClimber) (List.mem_of_getElem? (i := 2) rfl)), (hts (.selects RX3 yX3_hasClimber yX3_hasClimber) (List.mem_of_getElem? (i := 4) rfl))⟩ (zpV hK hN hZ hP hD hS hA [1] rfl (by decide) 1 rfl rfl rfl) rfl rfl hl.1 rfl (lv_room (Nat.le_of_ble_eq_true rfl)) dX5_as_5 ⟨Nat.zero_le _, Nat.zero_le _⟩) ?_
  refine lv_if_eq (tgt := 21) hx hb dX5_as_8 (by decide) (fun c8_1 => ?_) (fun c8_1 => ?_)
  · have c8_1 := bI_0.mp c8_1
    refine lv_aload_n hx hb dX5_as_21 rfl (lv_at hl 0 rfl) ?_
    refine lv_iconst (v := nI 1) hx hb dX5_as_22 (by decide) ?_
    refine zci (wr := [(hS9, .inr (3, ft)), (hk, .inl (cI, 6, .inl ((fun c => S (8 + 4 * c + 0))))), (hm, .inl (cI, 6, .inl ((fun c => S (8 + 4 * c + 1)))))]) (va_runV (As := [.int (nI 1)]) (rest := []) ⟨hx, hb, hml, hown, hts⟩ (c_X5_refuse l D cI cJ h hE fs E 1 (by first | rfl | assumption | omega) (by first | rfl | assumption | omega) s.heap.size) (cwV 1 hts gX5_as_X5_refuse rfl rfl rfl (by decide +kernel) ⟨Nat.le_of_ble_eq_true rfl, Nat.le_of_ble_eq_true rfl⟩) (zpV hK hN hZ hP hD hS hA [0, 4] rfl (by decide) 0 rfl rfl rfl) rfl rfl hl.1 rfl (lv_room (Nat.le_of_ble_eq_true rfl)) dX5_as_23 ⟨Nat.zero_le _, Nat.zero_le _⟩) hP hD hS hA [0, 4] [1, 2, 3] rfl rfl (by decide) (by decide) (fun r_4 w_3 H locs h_2 hP hD hS => ?_)
    obtain ⟨rfl, rfl⟩ := h_2
    have hP : va_P D vwCl [(hS9, .inr (3, ft)), (hk, .inl (cI, 6, .inl ((fun c => S (8 + 4 * c + 0))))), (hm, .inl (cI, 6, .inl ((fun c => S (8 + 4 * c + 1))))), (h, .inr (5, fs)), (hE, .inl (cI, 7, .inl (upd E 1 (E 1 + nI 1))))] H := hP
    have hD : va_D AA [(hS9, .inr (3, ft)), (hk, .inl (cI, 6, .inl ((fun c => S (8 + 4 * c + 0))))), (hm, .inl (cI, 6, .inl ((fun c => S (8 + 4 * c + 1))))), (h, .inr (5, fs)), (hE, .inl (cI, 7, .inl (upd E 1 (E 1 + nI 1))))] := hD
    have hP := hP.sub (ws' := [(h, .inr (5, fs)), (hS9, .inr (3, ft)), (hk, .inl (cI, 6, .inl ((fun c => S (8 + 4 * c + 0))))), (hm, .inl (cI, 6, .inl ((fun c => S (8 + 4 * c + 1))))), (hE, .inl (cI, 7, .inl (upd E 1 (E 1 + nI 1))))]) [3, 0, 1, 2, 4] rfl
    have hD := hD.sub (ws' := [(h, .inr (5, fs)), (hS9, .inr (3, ft)), (hk, .inl (cI, 6, .inl ((fun c => S (8 + 4 * c + 0))))), (hm, .inl (cI, 6, .inl ((fun c => S (8 + 4 * c + 1))))), (hE, .inl (cI, 7, .inl (upd E 1 (E 1 + nI 1))))]) [3, 0, 1, 2, 4] (by decide) rfl
    exact hret hP hD hS dX5_as_26 rfl (by rw [show zo_as S E n k climber kind = zerrE 1 S E from by rw [zo_as, if_neg (by intro h9; first | exact absurd h9.1 (by assumption) | exact absurd h9.2 (by assumption))] <;> rfl]; exact ⟨rfl, rfl⟩)
  · have c8_1 := bI_n0.mp c8_1
    obtain ⟨j, h_j, rfl⟩ := zin_of c8_1 (by omega)
    refine lv_iload_n hx hb dX5_as_11 rfl (lv_at hl 2 rfl) ?_
    refine lv_iconst (v := nI 0) hx hb dX5_as_12 (by decide) ?_
    refine lv_bipush (v := nI 6) hx hb dX5_as_13 (by decide) ?_
    refine zcsE (va_runS (As := [.int kind, .int (nI 0), .int (nI 6)]) (rest := []) ⟨hx, hb, hml, hown, hts⟩ (d_X5_isOutside l D cI cJ kind (nI 0) (nI 6) 0 6 (by decide) (by decide) s.heap.size) (va_cwS 3 hts gX5_as_X5_isOutside rfl rfl rfl (by decide +kernel) ⟨Nat.le_of_ble_eq_true rfl, Nat.le_of_ble_eq_true rfl⟩) (zpS hK hN hZ hP hD hS hA [] rfl (by decide)) rfl rfl hl.1 rfl (lv_room (Nat.le_of_ble_eq_true rfl)) dX5_as_15 ⟨Nat.zero_le _, Nat.zero_le _⟩) ?_
    refine lv_if_eq (tgt := 27) hx hb dX5_as_18 (by decide) (fun c18_5 => ?_) (fun c18_5 => ?_)
    · have c18_5 := bI_nX0.mp c18_5
      obtain ⟨q, h_q, rfl⟩ : ∃ q : Nat, q ≤ 6 ∧ kind = nI q := zrg_of c18_5 (by decide)
      obtain ⟨kd, hkd, hkd7⟩ := hcl j (by omega)
      refine lv_aload_n hx hb dX5_as_27 rfl (lv_at hl 0 rfl) ?_
      refine va_get (ci := 5) (v := .ref hS9) (C := RX5) (T := TX5) (N := 9) hx hb hts hin5 hown hK hP 0 rfl rfl 0 (by decide) (hts (.fieldLink RX5 12 "UpAllRound" "now" "LUpAllRound$Stair;") (List.mem_of_getElem? (i := 1) rfl)) (fun _ h9 => h9) hU0 dX5_as_28 ?_
      refine va_getN (ci := 3) (v := .ref hk) (C := RX3) (T := TX3) (N := 16) hx hb hts hin3 hown hK hP 1 rfl rfl 5 (by decide) (va_Nw.use rfl (hN (.fieldLinkNest "UpAllRound" 94 "UpAllRound$Stair" "kinds" "[I" "UpAllRound") (List.mem_of_getElem? (i := 5) rfl))) (fun _ h9 => h9) hft5 dX5_as_31 ?_
      refine lv_iload_n hx hb dX5_as_34 rfl (lv_at hl 1 rfl) ?_
      refine zald (t := j) hx hb hK hP 2 rfl (by omega) (by decide) dX5_as_35 ?_
      refine zrw hkd ?_
      refine lv_iload_n hx hb dX5_as_36 rfl (lv_at hl 2 rfl) ?_
      refine zcsE (va_runS (As := [.int (nI kd), .int (nI q)]) (rest := []) ⟨hx, hb, hml, hown, hts⟩ (c_X5_isUnder l D cI cJ kd q (by first | rfl | assumption | omega) (by first | rfl | assumption | omega) s.heap.size) (va_cwS 2 hts gX5_as_X5_isUnder rfl rfl rfl (by decide +kernel) ⟨Nat.le_of_ble_eq_true rfl, Nat.le_of_ble_eq_true rfl⟩) (zpS hK hN hZ hP hD hS hA [] rfl (by decide)) rfl rfl hl.1 rfl (lv_room (Nat.le_of_ble_eq_true rfl)) dX5_as_37 ⟨Nat.zero_le _, Nat.zero_le _⟩) ?_
      refine lv_if_ne (tgt := 49) hx hb dX5_as_40 (by decide) (fun c40_6 => ?_) (fun c40_6 => ?_)
      · have c40_6 := bI_n0.mp c40_6
        refine lv_aload_n hx hb dX5_as_49 rfl (lv_at hl 0 rfl) ?_
        refine va_get (ci := 5) (v := .ref hS9) (C := RX5) (T := TX5) (N := 9) hx hb hts hin5 hown hK hP 0 rfl rfl 0 (by decide) (hts (.fieldLink RX5 12 "UpAllRound" "now" "LUpAllRound$Stair;") (List.mem_of_getElem? (i := 1) rfl)) (fun _ h9 => h9) hU0 dX5_as_50 ?_
        refine va_getN (ci := 3) (v := .ref hm) (C := RX3) (T := TX3) (N := 16) hx hb hts hin3 hown hK hP 1 rfl rfl 6 (by decide) (va_Nw.use rfl (hN (.fieldLinkNest "UpAllRound" 97 "UpAllRound$Stair" "numbers" "[I" "UpAllRound") (List.mem_of_getElem? (i := 6) rfl))) (fun _ h9 => h9) hft6 dX5_as_53 ?_
        refine lv_iload_n hx hb dX5_as_56 rfl (lv_at hl 1 rfl) ?_
        refine zald (t := j) hx hb hK hP 3 rfl (by omega) (by decide) dX5_as_57 ?_
        exact hret hP hD hS dX5_as_58 rfl (by rw [show zo_as S E n k (nI j) (nI q) = (S (8 + 4 * j + 1), S, E) from by rw [zo_as, if_pos ⟨by assumption, by assumption⟩, nI_clamp (show j < 2147483648 by omega), hkd, nI_clamp (show kd < 2147483648 by omega), nI_clamp (show q < 2147483648 by omega), if_pos (bI_t c40_6)] <;> rfl]; exact ⟨rfl, rfl⟩)
      · have c40_6 := bI_0.mp c40_6
        refine lv_aload_n hx hb dX5_as_43 rfl (lv_at hl 0 rfl) ?_
        refine lv_iconst (v := nI 5) hx hb dX5_as_44 (by decide) ?_
        refine zci (wr := [(hS9, .inr (3, ft)), (hk, .inl (cI, 6, .inl ((fun c => S (8 + 4 * c + 0))))), (hm, .inl (cI, 6, .inl ((fun c => S (8 + 4 * c + 1)))))]) (va_runV (As := [.int (nI 5)]) (rest := []) ⟨hx, hb, hml, hown, hts⟩ (c_X5_refuse l D cI cJ h hE fs E 5 (by first | rfl | assumption | omega) (by first | rfl | assumption | omega) s.heap.size) (cwV 1 hts gX5_as_X5_refuse rfl rfl rfl (by decide +kernel) ⟨Nat.le_of_ble_eq_true rfl, Nat.le_of_ble_eq_true rfl⟩) (zpV hK hN hZ hP hD hS hA [0, 4] rfl (by decide) 0 rfl rfl rfl) rfl rfl hl.1 rfl (lv_room (Nat.le_of_ble_eq_true rfl)) dX5_as_45 ⟨Nat.zero_le _, Nat.zero_le _⟩) hP hD hS hA [0, 4] [1, 2, 3] rfl rfl (by decide) (by decide) (fun r_9 w_8 H locs h_7 hP hD hS => ?_)
        obtain ⟨rfl, rfl⟩ := h_7
        have hP : va_P D vwCl [(hS9, .inr (3, ft)), (hk, .inl (cI, 6, .inl ((fun c => S (8 + 4 * c + 0))))), (hm, .inl (cI, 6, .inl ((fun c => S (8 + 4 * c + 1))))), (h, .inr (5, fs)), (hE, .inl (cI, 7, .inl (upd E 5 (E 5 + nI 1))))] H := hP
        have hD : va_D AA [(hS9, .inr (3, ft)), (hk, .inl (cI, 6, .inl ((fun c => S (8 + 4 * c + 0))))), (hm, .inl (cI, 6, .inl ((fun c => S (8 + 4 * c + 1))))), (h, .inr (5, fs)), (hE, .inl (cI, 7, .inl (upd E 5 (E 5 + nI 1))))] := hD
        have hP := hP.sub (ws' := [(h, .inr (5, fs)), (hS9, .inr (3, ft)), (hk, .inl (cI, 6, .inl ((fun c => S (8 + 4 * c + 0))))), (hm, .inl (cI, 6, .inl ((fun c => S (8 + 4 * c + 1))))), (hE, .inl (cI, 7, .inl (upd E 5 (E 5 + nI 1))))]) [3, 0, 1, 2, 4] rfl
        have hD := hD.sub (ws' := [(h, .inr (5, fs)), (hS9, .inr (3, ft)), (hk, .inl (cI, 6, .inl ((fun c => S (8 + 4 * c + 0))))), (hm, .inl (cI, 6, .inl ((fun c => S (8 + 4 * c + 1))))), (hE, .inl (cI, 7, .inl (upd E 5 (E 5 + nI 1))))]) [3, 0, 1, 2, 4] (by decide) rfl
        exact hret hP hD hS dX5_as_48 rfl (by rw [show zo_as S E n k (nI j) (nI q) = zerrE 5 S E from by rw [zo_as, if_pos ⟨by assumption, by assumption⟩, nI_clamp (show j < 2147483648 by omega), hkd, nI_clamp (show kd < 2147483648 by omega), nI_clamp (show q < 2147483648 by omega), if_neg (by rw [bI9, bI_f c40_6]; decide)] <;> rfl]; exact ⟨rfl, rfl⟩)
    · have c18_5 := bI_nn0.mp c18_5
      refine lv_aload_n hx hb dX5_as_21 rfl (lv_at hl 0 rfl) ?_
      refine lv_iconst (v := nI 1) hx hb dX5_as_22 (by decide) ?_
      refine zci (wr := [(hS9, .inr (3, ft)), (hk, .inl (cI, 6, .inl ((fun c => S (8 + 4 * c + 0))))), (hm, .inl (cI, 6, .inl ((fun c => S (8 + 4 * c + 1)))))]) (va_runV (As := [.int (nI 1)]) (rest := []) ⟨hx, hb, hml, hown, hts⟩ (c_X5_refuse l D cI cJ h hE fs E 1 (by first | rfl | assumption | omega) (by first | rfl | assumption | omega) s.heap.size) (cwV 1 hts gX5_as_X5_refuse rfl rfl rfl (by decide +kernel) ⟨Nat.le_of_ble_eq_true rfl, Nat.le_of_ble_eq_true rfl⟩) (zpV hK hN hZ hP hD hS hA [0, 4] rfl (by decide) 0 rfl rfl rfl) rfl rfl hl.1 rfl (lv_room (Nat.le_of_ble_eq_true rfl)) dX5_as_23 ⟨Nat.zero_le _, Nat.zero_le _⟩) hP hD hS hA [0, 4] [1, 2, 3] rfl rfl (by decide) (by decide) (fun r_12 w_11 H locs h_10 hP hD hS => ?_)
      obtain ⟨rfl, rfl⟩ := h_10
      have hP : va_P D vwCl [(hS9, .inr (3, ft)), (hk, .inl (cI, 6, .inl ((fun c => S (8 + 4 * c + 0))))), (hm, .inl (cI, 6, .inl ((fun c => S (8 + 4 * c + 1))))), (h, .inr (5, fs)), (hE, .inl (cI, 7, .inl (upd E 1 (E 1 + nI 1))))] H := hP
      have hD : va_D AA [(hS9, .inr (3, ft)), (hk, .inl (cI, 6, .inl ((fun c => S (8 + 4 * c + 0))))), (hm, .inl (cI, 6, .inl ((fun c => S (8 + 4 * c + 1))))), (h, .inr (5, fs)), (hE, .inl (cI, 7, .inl (upd E 1 (E 1 + nI 1))))] := hD
      have hP := hP.sub (ws' := [(h, .inr (5, fs)), (hS9, .inr (3, ft)), (hk, .inl (cI, 6, .inl ((fun c => S (8 + 4 * c + 0))))), (hm, .inl (cI, 6, .inl ((fun c => S (8 + 4 * c + 1))))), (hE, .inl (cI, 7, .inl (upd E 1 (E 1 + nI 1))))]) [3, 0, 1, 2, 4] rfl
      have hD := hD.sub (ws' := [(h, .inr (5, fs)), (hS9, .inr (3, ft)), (hk, .inl (cI, 6, .inl ((fun c => S (8 + 4 * c + 0))))), (hm, .inl (cI, 6, .inl ((fun c => S (8 + 4 * c + 1))))), (hE, .inl (cI, 7, .inl (upd E 1 (E 1 + nI 1))))]) [3, 0, 1, 2, 4] (by decide) rfl
      exact hret hP hD hS dX5_as_26 rfl (by rw [show zo_as S E n k (nI j) kind = zerrE 1 S E from by rw [zo_as, if_neg (by intro h9; first | exact absurd h9.1 (by assumption) | exact absurd h9.2 (by assumption))] <;> rfl]; exact ⟨rfl, rfl⟩)
def zo_count (S E : Nat → Int32) (n k : Nat) (tr : Int32) (what : Int32) : zOut := if what = nI 0 then (S 6, S, E) else if what = nI 1 then (S 1, S, E) else if what = nI 2 then (S 0, S, E) else if what = nI 3 then (S 2, S, E) else if what = nI 4 then (zsum (fun j => zsum (fun o => bI (S (8 + 4 * j + 2) = S (8 + 4 * o + 2))) j) k, S, E) else if what = nI 5 then (S 4, S, E) else if what = nI 6 then (S 5, S, E) else if what = nI 7 then (tr, S, E) else if what = nI 8 then (S 3, S, E) else zerrE 1 S E
set_option maxHeartbeats 4000000 in
set_option maxRecDepth 100000 in
theorem c_X6_count (l : Launch) (D : va_G) (cI cJ : ClassId) (h : Nat) (hs : Nat) (hE : Nat) (fs : List Value) (S : Nat → Int32) (E : Nat → Int32) (n : Nat) (k : Nat) (tr : Int32) (what : Int32) (hf0 : fs[0]? = some (.ref hs)) (hf4 : fs[4]? = some (.ref hE)) (hn1 : S 1 = nI n) (hk6 : S 6 = nI k) (hn4 : 4 ≤ n) (hn14 : n ≤ 14) (hkle : k ≤ 6) (hf12 : fs[12]? = some (.int tr)) : zMi l yX6_count wsX6_count ({ frames := 2, cells := 0, slots := 0, locals := 45 } : Room) D [(cI, .int), (cJ, .array .int)] [.ref h, .int what] [(h, .inr (6, fs)), (hs, .inl (cI, 380, .inl S)), (hE, .inl (cI, 7, .inl E))] (fun r w => r = (zo_count S E n k tr what).1 ∧ w = [(h, .inr (6, fs)), (hs, .inl (cI, 380, .inl ((zo_count S E n k tr what).2.1))), (hE, .inl (cI, 7, .inl ((zo_count S E n k tr what).2.2)))]) := by
  refine zMi.start (cc := cX6_count) (maxL := 2) (rt := .int) (by first | decide | decide +kernel) rfl (Nat.le_of_ble_eq_true rfl) ?_
  intro pg ev s mt args below meth cd ls AA QQ ⟨hx, hb, hml, hr, hlocks, hown, hts, hK, hN, hZ, hP, hD, hA, hS, hl⟩ hret
  have hown : s.vm.findClass RX6 = some mt.cls := hown
  have hl : lv_has ls 2 [(0, .ref h), (1, .int what)] := hl
  have hin6 : ∀ w ∈ wsX60, w ∈ wsX6_count := fun w h => List.mem_cons_of_mem _ (List.mem_append_right _ (h))
  refine lv_iload_n hx hb dX6_count_0 rfl (lv_at hl 1 rfl) ?_
  by_cases k1_1 : what = nI 0
  · refine lv_tableIn (off := 51) (tgt := 52) hx hb dX6_count_1 (by rw [k1_1]; decide) (by rw [k1_1]; decide) (by rw [k1_1]; rfl) (by decide) ?_
    refine lv_aload_n hx hb dX6_count_52 rfl (lv_at hl 0 rfl) ?_
    refine va_get (ci := 6) (v := .ref hs) (C := RX6) (T := TX6) (N := 20) hx hb hts hin6 hown hK hP 0 rfl rfl 0 (by decide) (hts (.fieldLink RX6 7 "UpAllRoundModel" "s" "[I") (List.mem_of_getElem? (i := 1) rfl)) (fun _ h9 => h9) hf0 dX6_count_53 ?_
    refine lv_bipush (v := nI 6) hx hb dX6_count_56 (by decide) ?_
    refine zald (t := 6) hx hb hK hP 1 rfl (by omega) (by decide) dX6_count_58 ?_
    exact hret hP hD hS dX6_count_59 rfl (by rw [show zo_count S E n k tr what = (S 6, S, E) from by rw [zo_count, if_pos k1_1] <;> rfl]; exact ⟨by first | rfl | exact hn1.symm | exact hk6.symm, rfl⟩)
  by_cases k1_2 : what = nI 1
  · refine lv_tableIn (off := 59) (tgt := 60) hx hb dX6_count_1 (by rw [k1_2]; decide) (by rw [k1_2]; decide) (by rw [k1_2]; rfl) (by decide) ?_
    refine lv_aload_n hx hb dX6_count_60 rfl (lv_at hl 0 rfl) ?_
    refine va_get (ci := 6) (v := .ref hs) (C := RX6) (T := TX6) (N := 20) hx hb hts hin6 hown hK hP 0 rfl rfl 0 (by decide) (hts (.fieldLink RX6 7 "UpAllRoundModel" "s" "[I") (List.mem_of_getElem? (i := 1) rfl)) (fun _ h9 => h9) hf0 dX6_count_61 ?_
    refine lv_iconst (v := nI 1) hx hb dX6_count_64 (by decide) ?_
    refine zald (t := 1) hx hb hK hP 1 rfl (by omega) (by decide) dX6_count_65 ?_
    exact hret hP hD hS dX6_count_66 rfl (by rw [show zo_count S E n k tr what = (S 1, S, E) from by rw [zo_count, if_neg (show ¬ what = nI 0 from by rw [k1_2]; decide), if_pos k1_2] <;> rfl]; exact ⟨by first | rfl | exact hn1.symm | exact hk6.symm, rfl⟩)
  by_cases k1_3 : what = nI 2
  · refine lv_tableIn (off := 66) (tgt := 67) hx hb dX6_count_1 (by rw [k1_3]; decide) (by rw [k1_3]; decide) (by rw [k1_3]; rfl) (by decide) ?_
    refine lv_aload_n hx hb dX6_count_67 rfl (lv_at hl 0 rfl) ?_
    refine va_get (ci := 6) (v := .ref hs) (C := RX6) (T := TX6) (N := 20) hx hb hts hin6 hown hK hP 0 rfl rfl 0 (by decide) (hts (.fieldLink RX6 7 "UpAllRoundModel" "s" "[I") (List.mem_of_getElem? (i := 1) rfl)) (fun _ h9 => h9) hf0 dX6_count_68 ?_
    refine lv_iconst (v := nI 0) hx hb dX6_count_71 (by decide) ?_
    refine zald (t := 0) hx hb hK hP 1 rfl (by omega) (by decide) dX6_count_72 ?_
    exact hret hP hD hS dX6_count_73 rfl (by rw [show zo_count S E n k tr what = (S 0, S, E) from by rw [zo_count, if_neg (show ¬ what = nI 0 from by rw [k1_3]; decide), if_neg (show ¬ what = nI 1 from by rw [k1_3]; decide), if_pos k1_3] <;> rfl]; exact ⟨by first | rfl | exact hn1.symm | exact hk6.symm, rfl⟩)
  by_cases k1_4 : what = nI 3
  · refine lv_tableIn (off := 73) (tgt := 74) hx hb dX6_count_1 (by rw [k1_4]; decide) (by rw [k1_4]; decide) (by rw [k1_4]; rfl) (by decide) ?_
    refine lv_aload_n hx hb dX6_count_74 rfl (lv_at hl 0 rfl) ?_
    refine va_get (ci := 6) (v := .ref hs) (C := RX6) (T := TX6) (N := 20) hx hb hts hin6 hown hK hP 0 rfl rfl 0 (by decide) (hts (.fieldLink RX6 7 "UpAllRoundModel" "s" "[I") (List.mem_of_getElem? (i := 1) rfl)) (fun _ h9 => h9) hf0 dX6_count_75 ?_
    refine lv_iconst (v := nI 2) hx hb dX6_count_78 (by decide) ?_
    refine zald (t := 2) hx hb hK hP 1 rfl (by omega) (by decide) dX6_count_79 ?_
    exact hret hP hD hS dX6_count_80 rfl (by rw [show zo_count S E n k tr what = (S 2, S, E) from by rw [zo_count, if_neg (show ¬ what = nI 0 from by rw [k1_4]; decide), if_neg (show ¬ what = nI 1 from by rw [k1_4]; decide), if_neg (show ¬ what = nI 2 from by rw [k1_4]; decide), if_pos k1_4] <;> rfl]; exact ⟨by first | rfl | exact hn1.symm | exact hk6.symm, rfl⟩)
  by_cases k1_5 : what = nI 4
  · refine lv_tableIn (off := 80) (tgt := 81) hx hb dX6_count_1 (by rw [k1_5]; decide) (by rw [k1_5]; decide) (by rw [k1_5]; rfl) (by decide) ?_
    refine lv_aload_n hx hb dX6_count_81 rfl (lv_at hl 0 rfl) ?_
    refine zcsE (va_runV (As := []) (rest := []) ⟨hx, hb, hml, hown, hts⟩ (c_X6_pairs l D cI cJ h hs fs S k (by first | rfl | assumption | omega) (by first | rfl | assumption | omega) (by first | rfl | assumption | omega) s.heap.size) (cwV 0 hts gX6_count_X6_pairs rfl rfl rfl (by decide +kernel) ⟨Nat.le_of_ble_eq_true rfl, Nat.le_of_ble_eq_true rfl⟩) (zpV hK hN hZ hP hD hS hA [0, 1] rfl (by decide) 0 rfl rfl rfl) rfl rfl hl.1 rfl (lv_room (Nat.le_of_ble_eq_true rfl)) dX6_count_82 ⟨Nat.zero_le _, Nat.zero_le _⟩) ?_
    exact hret hP hD hS dX6_count_85 rfl (by rw [show zo_count S E n k tr what = (zsum (fun j => zsum (fun o => bI (S (8 + 4 * j + 2) = S (8 + 4 * o + 2))) j) k, S, E) from by rw [zo_count, if_neg (show ¬ what = nI 0 from by rw [k1_5]; decide), if_neg (show ¬ what = nI 1 from by rw [k1_5]; decide), if_neg (show ¬ what = nI 2 from by rw [k1_5]; decide), if_neg (show ¬ what = nI 3 from by rw [k1_5]; decide), if_pos k1_5] <;> rfl]; exact ⟨by first | rfl | exact hn1.symm | exact hk6.symm, rfl⟩)
  by_cases k1_6 : what = nI 5
  · refine lv_tableIn (off := 85) (tgt := 86) hx hb dX6_count_1 (by rw [k1_6]; decide) (by rw [k1_6]; decide) (by rw [k1_6]; rfl) (by decide) ?_
    refine lv_aload_n hx hb dX6_count_86 rfl (lv_at hl 0 rfl) ?_
    refine va_get (ci := 6) (v := .ref hs) (C := RX6) (T := TX6) (N := 20) hx hb hts hin6 hown hK hP 0 rfl rfl 0 (by decide) (hts (.fieldLink RX6 7 "UpAllRoundModel" "s" "[I") (List.mem_of_getElem? (i := 1) rfl)) (fun _ h9 => h9) hf0 dX6_count_87 ?_
    refine lv_iconst (v := nI 4) hx hb dX6_count_90 (by decide) ?_
    refine zald (t := 4) hx hb hK hP 1 rfl (by omega) (by decide) dX6_count_91 ?_
    exact hret hP hD hS dX6_count_92 rfl (by rw [show zo_count S E n k tr what = (S 4, S, E) from by rw [zo_count, if_neg (show ¬ what = nI 0 from by rw [k1_6]; decide), if_neg (show ¬ what = nI 1 from by rw [k1_6]; decide), if_neg (show ¬ what = nI 2 from by rw [k1_6]; decide), if_neg (show ¬ what = nI 3 from by rw [k1_6]; decide), if_neg (show ¬ what = nI 4 from by rw [k1_6]; decide), if_pos k1_6] <;> rfl]; exact ⟨by first | rfl | exact hn1.symm | exact hk6.symm, rfl⟩)
  by_cases k1_7 : what = nI 6
  · refine lv_tableIn (off := 92) (tgt := 93) hx hb dX6_count_1 (by rw [k1_7]; decide) (by rw [k1_7]; decide) (by rw [k1_7]; rfl) (by decide) ?_
    refine lv_aload_n hx hb dX6_count_93 rfl (lv_at hl 0 rfl) ?_
    refine va_get (ci := 6) (v := .ref hs) (C := RX6) (T := TX6) (N := 20) hx hb hts hin6 hown hK hP 0 rfl rfl 0 (by decide) (hts (.fieldLink RX6 7 "UpAllRoundModel" "s" "[I") (List.mem_of_getElem? (i := 1) rfl)) (fun _ h9 => h9) hf0 dX6_count_94 ?_
    refine lv_iconst (v := nI 5) hx hb dX6_count_97 (by decide) ?_
    refine zald (t := 5) hx hb hK hP 1 rfl (by omega) (by decide) dX6_count_98 ?_
    exact hret hP hD hS dX6_count_99 rfl (by rw [show zo_count S E n k tr what = (S 5, S, E) from by rw [zo_count, if_neg (show ¬ what = nI 0 from by rw [k1_7]; decide), if_neg (show ¬ what = nI 1 from by rw [k1_7]; decide), if_neg (show ¬ what = nI 2 from by rw [k1_7]; decide), if_neg (show ¬ what = nI 3 from by rw [k1_7]; decide), if_neg (show ¬ what = nI 4 from by rw [k1_7]; decide), if_neg (show ¬ what = nI 5 from by rw [k1_7]; decide), if_pos k1_7] <;> rfl]; exact ⟨by first | rfl | exact hn1.symm | exact hk6.symm, rfl⟩)
  by_cases k1_8 : what = nI 7
  · refine lv_tableIn (off := 99) (tgt := 100) hx hb dX6_count_1 (by rw [k1_8]; decide) (by rw [k1_8]; decide) (by rw [k1_8]; rfl) (by decide) ?_
    refine lv_aload_n hx hb dX6_count_100 rfl (lv_at hl 0 rfl) ?_
    refine va_get (ci := 6) (v := .int tr) (C := RX6) (T := TX6) (N := 20) hx hb hts hin6 hown hK hP 0 rfl rfl 12 (by decide) (hts (.fieldLink RX6 205 "UpAllRoundModel" "traced" "I") (List.mem_of_getElem? (i := 2) rfl)) (fun _ h9 => h9) hf12 dX6_count_101 ?_
    exact hret hP hD hS dX6_count_104 rfl (by rw [show zo_count S E n k tr what = (tr, S, E) from by rw [zo_count, if_neg (show ¬ what = nI 0 from by rw [k1_8]; decide), if_neg (show ¬ what = nI 1 from by rw [k1_8]; decide), if_neg (show ¬ what = nI 2 from by rw [k1_8]; decide), if_neg (show ¬ what = nI 3 from by rw [k1_8]; decide), if_neg (show ¬ what = nI 4 from by rw [k1_8]; decide), if_neg (show ¬ what = nI 5 from by rw [k1_8]; decide), if_neg (show ¬ what = nI 6 from by rw [k1_8]; decide), if_pos k1_8] <;> rfl]; exact ⟨by first | rfl | exact hn1.symm | exact hk6.symm, rfl⟩)
  by_cases k1_9 : what = nI 8
  · refine lv_tableIn (off := 104) (tgt := 105) hx hb dX6_count_1 (by rw [k1_9]; decide) (by rw [k1_9]; decide) (by rw [k1_9]; rfl) (by decide) ?_
    refine lv_aload_n hx hb dX6_count_105 rfl (lv_at hl 0 rfl) ?_
    refine va_get (ci := 6) (v := .ref hs) (C := RX6) (T := TX6) (N := 20) hx hb hts hin6 hown hK hP 0 rfl rfl 0 (by decide) (hts (.fieldLink RX6 7 "UpAllRoundModel" "s" "[I") (List.mem_of_getElem? (i := 1) rfl)) (fun _ h9 => h9) hf0 dX6_count_106 ?_
    refine lv_iconst (v := nI 3) hx hb dX6_count_109 (by decide) ?_
    refine zald (t := 3) hx hb hK hP 1 rfl (by omega) (by decide) dX6_count_110 ?_
    exact hret hP hD hS dX6_count_111 rfl (by rw [show zo_count S E n k tr what = (S 3, S, E) from by rw [zo_count, if_neg (show ¬ what = nI 0 from by rw [k1_9]; decide), if_neg (show ¬ what = nI 1 from by rw [k1_9]; decide), if_neg (show ¬ what = nI 2 from by rw [k1_9]; decide), if_neg (show ¬ what = nI 3 from by rw [k1_9]; decide), if_neg (show ¬ what = nI 4 from by rw [k1_9]; decide), if_neg (show ¬ what = nI 5 from by rw [k1_9]; decide), if_neg (show ¬ what = nI 6 from by rw [k1_9]; decide), if_neg (show ¬ what = nI 7 from by rw [k1_9]; decide), if_pos k1_9] <;> rfl]; exact ⟨by first | rfl | exact hn1.symm | exact hk6.symm, rfl⟩)
  refine lv_tableOut (tgt := 112) hx hb dX6_count_1 (by rcases zsw9 (x := what) (by assumption) (by assumption) (by assumption) (by assumption) (by assumption) (by assumption) (by assumption) (by assumption) (by assumption) with q | q <;> first | exact Or.inl q | exact Or.inr q) (by decide) ?_
  refine lv_aload_n hx hb dX6_count_112 rfl (lv_at hl 0 rfl) ?_
  refine lv_iconst (v := nI 1) hx hb dX6_count_113 (by decide) ?_
  refine zci (wr := [(hs, .inl (cI, 380, .inl S))]) (va_runV (As := [.int (nI 1)]) (rest := []) ⟨hx, hb, hml, hown, hts⟩ (c_X6_error l D cI cJ h hE fs E 1 (by first | rfl | assumption | omega) (by first | rfl | assumption | omega) s.heap.size) (cwV 1 hts gX6_count_X6_error rfl rfl rfl (by decide +kernel) ⟨Nat.le_of_ble_eq_true rfl, Nat.le_of_ble_eq_true rfl⟩) (zpV hK hN hZ hP hD hS hA [0, 2] rfl (by decide) 0 rfl rfl rfl) rfl rfl hl.1 rfl (lv_room (Nat.le_of_ble_eq_true rfl)) dX6_count_114 ⟨Nat.zero_le _, Nat.zero_le _⟩) hP hD hS hA [0, 2] [1] rfl rfl (by decide) (by decide) (fun r_12 w_11 H locs h_10 hP hD hS => ?_)
  obtain ⟨rfl, rfl⟩ := h_10
  have hP : va_P D vwCl [(hs, .inl (cI, 380, .inl S)), (h, .inr (6, fs)), (hE, .inl (cI, 7, .inl (upd E 1 (E 1 + nI 1))))] H := hP
  have hD : va_D AA [(hs, .inl (cI, 380, .inl S)), (h, .inr (6, fs)), (hE, .inl (cI, 7, .inl (upd E 1 (E 1 + nI 1))))] := hD
  have hP := hP.sub (ws' := [(h, .inr (6, fs)), (hs, .inl (cI, 380, .inl S)), (hE, .inl (cI, 7, .inl (upd E 1 (E 1 + nI 1))))]) [1, 0, 2] rfl
  have hD := hD.sub (ws' := [(h, .inr (6, fs)), (hs, .inl (cI, 380, .inl S)), (hE, .inl (cI, 7, .inl (upd E 1 (E 1 + nI 1))))]) [1, 0, 2] (by decide) rfl
  exact hret hP hD hS dX6_count_117 rfl (by rw [show zo_count S E n k tr what = zerrE 1 S E from by rw [zo_count, if_neg k1_1, if_neg k1_2, if_neg k1_3, if_neg k1_4, if_neg k1_5, if_neg k1_6, if_neg k1_7, if_neg k1_8, if_neg k1_9] <;> rfl]; exact ⟨rfl, rfl⟩)
set_option maxHeartbeats 4000000 in
set_option maxRecDepth 100000 in
theorem c_X5_count (l : Launch) (D : va_G) (cI cJ : ClassId) (h : Nat) (hE : Nat) (hS9 : Nat) (fs : List Value) (S : Nat → Int32) (E : Nat → Int32) (n : Nat) (k : Nat) (ft : List Value) (hp : Nat) (hV : Nat) (vs : List Value) (tr : Int32) (what : Int32) (hU0 : fs[0]? = some (.ref hS9)) (hU7 : fs[7]? = some (.ref hE)) (hn1 : S 1 = nI n) (hk6 : S 6 = nI k) (hn4 : 4 ≤ n) (hn14 : n ≤ 14) (hkle : k ≤ 6) (hft0 : ft[0]? = some (.int (nI n))) (hft2 : ft[2]? = some (.int (S 2))) (hft3 : ft[3]? = some (.int (S 0))) (hft4 : ft[4]? = some (.int (nI k))) (hft7 : ft[7]? = some (.ref hp)) (hft11 : ft[11]? = some (.int (S 3))) (hft13 : ft[13]? = some (.int (S 4))) (hft15 : ft[15]? = some (.int (S 5))) (hU4 : fs[4]? = some (.ref hV)) (hv1 : vs[1]? = some (.int tr)) : zMi l yX5_count wsX5_count ({ frames := 1, cells := 0, slots := 0, locals := 23 } : Room) D [(cI, .int), (cJ, .array .int)] [.ref h, .int what] [(h, .inr (5, fs)), (hS9, .inr (3, ft)), (hp, .inl (cI, 6, .inl ((fun c => S (8 + 4 * c + 2))))), (hE, .inl (cI, 7, .inl E)), (hV, .inr (4, vs))] (fun r w => r = (zo_count S E n k tr what).1 ∧ w = [(h, .inr (5, fs)), (hS9, .inr (3, ft)), (hp, .inl (cI, 6, .inl ((fun c => S (8 + 4 * c + 2))))), (hE, .inl (cI, 7, .inl ((zo_count S E n k tr what).2.2))), (hV, .inr (4, vs))]) := by
  refine zMi.start (cc := cX5_count) (maxL := 2) (rt := .int) (by first | decide | decide +kernel) rfl (Nat.le_of_ble_eq_true rfl) ?_
  intro pg ev s mt args below meth cd ls AA QQ ⟨hx, hb, hml, hr, hlocks, hown, hts, hK, hN, hZ, hP, hD, hA, hS, hl⟩ hret
  have hown : s.vm.findClass RX5 = some mt.cls := hown
  have hl : lv_has ls 2 [(0, .ref h), (1, .int what)] := hl
  have hin3 : ∀ w ∈ wsX30, w ∈ wsX5_count := fun w h => List.mem_cons_of_mem _ (List.mem_append_left _ (List.mem_append_right _ (h)))
  have hin4 : ∀ w ∈ wsX40, w ∈ wsX5_count := fun w h => List.mem_cons_of_mem _ (List.mem_append_right _ (h))
  have hin5 : ∀ w ∈ wsX50, w ∈ wsX5_count := fun w h => List.mem_cons_of_mem _ (List.mem_append_left _ (List.mem_append_left _ (List.mem_append_right _ (h))))
  refine lv_iload_n hx hb dX5_count_0 rfl (lv_at hl 1 rfl) ?_
  by_cases k1_1 : what = nI 0
  · refine lv_tableIn (off := 51) (tgt := 52) hx hb dX5_count_1 (by rw [k1_1]; decide) (by rw [k1_1]; decide) (by rw [k1_1]; rfl) (by decide) ?_
    refine lv_aload_n hx hb dX5_count_52 rfl (lv_at hl 0 rfl) ?_
    refine va_get (ci := 5) (v := .ref hS9) (C := RX5) (T := TX5) (N := 9) hx hb hts hin5 hown hK hP 0 rfl rfl 0 (by decide) (hts (.fieldLink RX5 12 "UpAllRound" "now" "LUpAllRound$Stair;") (List.mem_of_getElem? (i := 1) rfl)) (fun _ h9 => h9) hU0 dX5_count_53 ?_
    refine va_getN (ci := 3) (v := .int (nI k)) (C := RX3) (T := TX3) (N := 16) hx hb hts hin3 hown hK hP 1 rfl rfl 4 (by decide) (va_Nw.use rfl (hN (.fieldLinkNest "UpAllRound" 64 "UpAllRound$Stair" "climbers" "I" "UpAllRound") (List.mem_of_getElem? (i := 4) rfl))) (fun _ h9 => h9) hft4 dX5_count_56 ?_
    exact hret hP hD hS dX5_count_59 rfl (by rw [show zo_count S E n k tr what = (S 6, S, E) from by rw [zo_count, if_pos k1_1] <;> rfl]; exact ⟨by first | rfl | exact hn1.symm | exact hk6.symm, rfl⟩)
  by_cases k1_2 : what = nI 1
  · refine lv_tableIn (off := 59) (tgt := 60) hx hb dX5_count_1 (by rw [k1_2]; decide) (by rw [k1_2]; decide) (by rw [k1_2]; rfl) (by decide) ?_
    refine lv_aload_n hx hb dX5_count_60 rfl (lv_at hl 0 rfl) ?_
    refine va_get (ci := 5) (v := .ref hS9) (C := RX5) (T := TX5) (N := 9) hx hb hts hin5 hown hK hP 0 rfl rfl 0 (by decide) (hts (.fieldLink RX5 12 "UpAllRound" "now" "LUpAllRound$Stair;") (List.mem_of_getElem? (i := 1) rfl)) (fun _ h9 => h9) hU0 dX5_count_61 ?_
    refine va_getN (ci := 3) (v := .int (nI n)) (C := RX3) (T := TX3) (N := 16) hx hb hts hin3 hown hK hP 1 rfl rfl 0 (by decide) (va_Nw.use rfl (hN (.fieldLinkNest "UpAllRound" 67 "UpAllRound$Stair" "steps" "I" "UpAllRound") (List.mem_of_getElem? (i := 0) rfl))) (fun _ h9 => h9) hft0 dX5_count_64 ?_
    exact hret hP hD hS dX5_count_67 rfl (by rw [show zo_count S E n k tr what = (S 1, S, E) from by rw [zo_count, if_neg (show ¬ what = nI 0 from by rw [k1_2]; decide), if_pos k1_2] <;> rfl]; exact ⟨by first | rfl | exact hn1.symm | exact hk6.symm, rfl⟩)
  by_cases k1_3 : what = nI 2
  · refine lv_tableIn (off := 67) (tgt := 68) hx hb dX5_count_1 (by rw [k1_3]; decide) (by rw [k1_3]; decide) (by rw [k1_3]; rfl) (by decide) ?_
    refine lv_aload_n hx hb dX5_count_68 rfl (lv_at hl 0 rfl) ?_
    refine va_get (ci := 5) (v := .ref hS9) (C := RX5) (T := TX5) (N := 9) hx hb hts hin5 hown hK hP 0 rfl rfl 0 (by decide) (hts (.fieldLink RX5 12 "UpAllRound" "now" "LUpAllRound$Stair;") (List.mem_of_getElem? (i := 1) rfl)) (fun _ h9 => h9) hU0 dX5_count_69 ?_
    refine va_getN (ci := 3) (v := .int (S 0)) (C := RX3) (T := TX3) (N := 16) hx hb hts hin3 hown hK hP 1 rfl rfl 3 (by decide) (va_Nw.use rfl (hN (.fieldLinkNest "UpAllRound" 158 "UpAllRound$Stair" "minute" "I" "UpAllRound") (List.mem_of_getElem? (i := 3) rfl))) (fun _ h9 => h9) hft3 dX5_count_72 ?_
    exact hret hP hD hS dX5_count_75 rfl (by rw [show zo_count S E n k tr what = (S 0, S, E) from by rw [zo_count, if_neg (show ¬ what = nI 0 from by rw [k1_3]; decide), if_neg (show ¬ what = nI 1 from by rw [k1_3]; decide), if_pos k1_3] <;> rfl]; exact ⟨by first | rfl | exact hn1.symm | exact hk6.symm, rfl⟩)
  by_cases k1_4 : what = nI 3
  · refine lv_tableIn (off := 75) (tgt := 76) hx hb dX5_count_1 (by rw [k1_4]; decide) (by rw [k1_4]; decide) (by rw [k1_4]; rfl) (by decide) ?_
    refine lv_aload_n hx hb dX5_count_76 rfl (lv_at hl 0 rfl) ?_
    refine va_get (ci := 5) (v := .ref hS9) (C := RX5) (T := TX5) (N := 9) hx hb hts hin5 hown hK hP 0 rfl rfl 0 (by decide) (hts (.fieldLink RX5 12 "UpAllRound" "now" "LUpAllRound$Stair;") (List.mem_of_getElem? (i := 1) rfl)) (fun _ h9 => h9) hU0 dX5_count_77 ?_
    refine va_getN (ci := 3) (v := .int (S 2)) (C := RX3) (T := TX3) (N := 16) hx hb hts hin3 hown hK hP 1 rfl rfl 2 (by decide) (va_Nw.use rfl (hN (.fieldLinkNest "UpAllRound" 81 "UpAllRound$Stair" "none" "I" "UpAllRound") (List.mem_of_getElem? (i := 2) rfl))) (fun _ h9 => h9) hft2 dX5_count_80 ?_
    exact hret hP hD hS dX5_count_83 rfl (by rw [show zo_count S E n k tr what = (S 2, S, E) from by rw [zo_count, if_neg (show ¬ what = nI 0 from by rw [k1_4]; decide), if_neg (show ¬ what = nI 1 from by rw [k1_4]; decide), if_neg (show ¬ what = nI 2 from by rw [k1_4]; decide), if_pos k1_4] <;> rfl]; exact ⟨by first | rfl | exact hn1.symm | exact hk6.symm, rfl⟩)
  by_cases k1_5 : what = nI 4
  · refine lv_tableIn (off := 83) (tgt := 84) hx hb dX5_count_1 (by rw [k1_5]; decide) (by rw [k1_5]; decide) (by rw [k1_5]; rfl) (by decide) ?_
    refine lv_aload_n hx hb dX5_count_84 rfl (lv_at hl 0 rfl) ?_
    refine va_get (ci := 5) (v := .ref hS9) (C := RX5) (T := TX5) (N := 9) hx hb hts hin5 hown hK hP 0 rfl rfl 0 (by decide) (hts (.fieldLink RX5 12 "UpAllRound" "now" "LUpAllRound$Stair;") (List.mem_of_getElem? (i := 1) rfl)) (fun _ h9 => h9) hU0 dX5_count_85 ?_
    refine zcsE (va_runVN (As := []) (rest := []) ⟨hx, hb, hml, hown, hts⟩ (c_X3_pairs l D cI cJ hS9 hp ft k ((fun c => S (8 + 4 * c + 2))) (by first | rfl | assumption | omega) (by first | rfl | assumption | omega) (by first | rfl | assumption | omega) s.heap.size) ⟨va_cnB 0 hts gX5_count_X3_pairs_n164 rfl rfl rfl (hN (.methodLinkNest "UpAllRound" 164 yX3_pairs "UpAllRound") (List.mem_of_getElem? (i := 49) rfl)) (hts (.initialized RX3) (List.mem_of_getElem? (i := 4) rfl)) (by decide +kernel) ⟨Nat.le_of_ble_eq_true rfl, Nat.le_of_ble_eq_true rfl⟩, (hts (.instanceMethod yX3_pairs) (List.mem_of_getElem? (i := 3) rfl)), (hts (.selects RX3 yX3_pairs yX3_pairs) (List.mem_of_getElem? (i := 5) rfl))⟩ (zpV hK hN hZ hP hD hS hA [1, 2] rfl (by decide) 1 rfl rfl rfl) rfl rfl hl.1 rfl (lv_room (Nat.le_of_ble_eq_true rfl)) dX5_count_88 ⟨Nat.zero_le _, Nat.zero_le _⟩) ?_
    exact hret hP hD hS dX5_count_91 rfl (by rw [show zo_count S E n k tr what = (zsum (fun j => zsum (fun o => bI (S (8 + 4 * j + 2) = S (8 + 4 * o + 2))) j) k, S, E) from by rw [zo_count, if_neg (show ¬ what = nI 0 from by rw [k1_5]; decide), if_neg (show ¬ what = nI 1 from by rw [k1_5]; decide), if_neg (show ¬ what = nI 2 from by rw [k1_5]; decide), if_neg (show ¬ what = nI 3 from by rw [k1_5]; decide), if_pos k1_5] <;> rfl]; exact ⟨by first | rfl | exact hn1.symm | exact hk6.symm, rfl⟩)
  by_cases k1_6 : what = nI 5
  · refine lv_tableIn (off := 91) (tgt := 92) hx hb dX5_count_1 (by rw [k1_6]; decide) (by rw [k1_6]; decide) (by rw [k1_6]; rfl) (by decide) ?_
    refine lv_aload_n hx hb dX5_count_92 rfl (lv_at hl 0 rfl) ?_
    refine va_get (ci := 5) (v := .ref hS9) (C := RX5) (T := TX5) (N := 9) hx hb hts hin5 hown hK hP 0 rfl rfl 0 (by decide) (hts (.fieldLink RX5 12 "UpAllRound" "now" "LUpAllRound$Stair;") (List.mem_of_getElem? (i := 1) rfl)) (fun _ h9 => h9) hU0 dX5_count_93 ?_
    refine va_getN (ci := 3) (v := .int (S 4)) (C := RX3) (T := TX3) (N := 16) hx hb hts hin3 hown hK hP 1 rfl rfl 13 (by decide) (va_Nw.use rfl (hN (.fieldLinkNest "UpAllRound" 113 "UpAllRound$Stair" "taped" "I" "UpAllRound") (List.mem_of_getElem? (i := 11) rfl))) (fun _ h9 => h9) hft13 dX5_count_96 ?_
    exact hret hP hD hS dX5_count_99 rfl (by rw [show zo_count S E n k tr what = (S 4, S, E) from by rw [zo_count, if_neg (show ¬ what = nI 0 from by rw [k1_6]; decide), if_neg (show ¬ what = nI 1 from by rw [k1_6]; decide), if_neg (show ¬ what = nI 2 from by rw [k1_6]; decide), if_neg (show ¬ what = nI 3 from by rw [k1_6]; decide), if_neg (show ¬ what = nI 4 from by rw [k1_6]; decide), if_pos k1_6] <;> rfl]; exact ⟨by first | rfl | exact hn1.symm | exact hk6.symm, rfl⟩)
  by_cases k1_7 : what = nI 6
  · refine lv_tableIn (off := 99) (tgt := 100) hx hb dX5_count_1 (by rw [k1_7]; decide) (by rw [k1_7]; decide) (by rw [k1_7]; rfl) (by decide) ?_
    refine lv_aload_n hx hb dX5_count_100 rfl (lv_at hl 0 rfl) ?_
    refine va_get (ci := 5) (v := .ref hS9) (C := RX5) (T := TX5) (N := 9) hx hb hts hin5 hown hK hP 0 rfl rfl 0 (by decide) (hts (.fieldLink RX5 12 "UpAllRound" "now" "LUpAllRound$Stair;") (List.mem_of_getElem? (i := 1) rfl)) (fun _ h9 => h9) hU0 dX5_count_101 ?_
    refine va_getN (ci := 3) (v := .int (S 5)) (C := RX3) (T := TX3) (N := 16) hx hb hts hin3 hown hK hP 1 rfl rfl 15 (by decide) (va_Nw.use rfl (hN (.fieldLinkNest "UpAllRound" 254 "UpAllRound$Stair" "waits" "I" "UpAllRound") (List.mem_of_getElem? (i := 13) rfl))) (fun _ h9 => h9) hft15 dX5_count_104 ?_
    exact hret hP hD hS dX5_count_107 rfl (by rw [show zo_count S E n k tr what = (S 5, S, E) from by rw [zo_count, if_neg (show ¬ what = nI 0 from by rw [k1_7]; decide), if_neg (show ¬ what = nI 1 from by rw [k1_7]; decide), if_neg (show ¬ what = nI 2 from by rw [k1_7]; decide), if_neg (show ¬ what = nI 3 from by rw [k1_7]; decide), if_neg (show ¬ what = nI 4 from by rw [k1_7]; decide), if_neg (show ¬ what = nI 5 from by rw [k1_7]; decide), if_pos k1_7] <;> rfl]; exact ⟨by first | rfl | exact hn1.symm | exact hk6.symm, rfl⟩)
  by_cases k1_8 : what = nI 7
  · refine lv_tableIn (off := 107) (tgt := 108) hx hb dX5_count_1 (by rw [k1_8]; decide) (by rw [k1_8]; decide) (by rw [k1_8]; rfl) (by decide) ?_
    refine lv_aload_n hx hb dX5_count_108 rfl (lv_at hl 0 rfl) ?_
    refine va_get (ci := 5) (v := .ref hV) (C := RX5) (T := TX5) (N := 9) hx hb hts hin5 hown hK hP 0 rfl rfl 4 (by decide) (hts (.fieldLink RX5 32 "UpAllRound" "voices" "LUpAllRound$Voices;") (List.mem_of_getElem? (i := 2) rfl)) (fun _ h9 => h9) hU4 dX5_count_109 ?_
    refine va_getN (ci := 4) (v := .int tr) (C := RX4) (T := TX4) (N := 6) hx hb hts hin4 hown hK hP 4 rfl rfl 1 (by decide) (va_Nw.use rfl (hN (.fieldLinkNest "UpAllRound" 225 "UpAllRound$Voices" "traced" "I" "UpAllRound") (List.mem_of_getElem? (i := 17) rfl))) (fun _ h9 => h9) hv1 dX5_count_112 ?_
    exact hret hP hD hS dX5_count_115 rfl (by rw [show zo_count S E n k tr what = (tr, S, E) from by rw [zo_count, if_neg (show ¬ what = nI 0 from by rw [k1_8]; decide), if_neg (show ¬ what = nI 1 from by rw [k1_8]; decide), if_neg (show ¬ what = nI 2 from by rw [k1_8]; decide), if_neg (show ¬ what = nI 3 from by rw [k1_8]; decide), if_neg (show ¬ what = nI 4 from by rw [k1_8]; decide), if_neg (show ¬ what = nI 5 from by rw [k1_8]; decide), if_neg (show ¬ what = nI 6 from by rw [k1_8]; decide), if_pos k1_8] <;> rfl]; exact ⟨by first | rfl | exact hn1.symm | exact hk6.symm, rfl⟩)
  by_cases k1_9 : what = nI 8
  · refine lv_tableIn (off := 115) (tgt := 116) hx hb dX5_count_1 (by rw [k1_9]; decide) (by rw [k1_9]; decide) (by rw [k1_9]; rfl) (by decide) ?_
    refine lv_aload_n hx hb dX5_count_116 rfl (lv_at hl 0 rfl) ?_
    refine va_get (ci := 5) (v := .ref hS9) (C := RX5) (T := TX5) (N := 9) hx hb hts hin5 hown hK hP 0 rfl rfl 0 (by decide) (hts (.fieldLink RX5 12 "UpAllRound" "now" "LUpAllRound$Stair;") (List.mem_of_getElem? (i := 1) rfl)) (fun _ h9 => h9) hU0 dX5_count_117 ?_
    refine va_getN (ci := 3) (v := .int (S 3)) (C := RX3) (T := TX3) (N := 16) hx hb hts hin3 hown hK hP 1 rfl rfl 11 (by decide) (va_Nw.use rfl (hN (.fieldLinkNest "UpAllRound" 171 "UpAllRound$Stair" "z" "I" "UpAllRound") (List.mem_of_getElem? (i := 9) rfl))) (fun _ h9 => h9) hft11 dX5_count_120 ?_
    exact hret hP hD hS dX5_count_123 rfl (by rw [show zo_count S E n k tr what = (S 3, S, E) from by rw [zo_count, if_neg (show ¬ what = nI 0 from by rw [k1_9]; decide), if_neg (show ¬ what = nI 1 from by rw [k1_9]; decide), if_neg (show ¬ what = nI 2 from by rw [k1_9]; decide), if_neg (show ¬ what = nI 3 from by rw [k1_9]; decide), if_neg (show ¬ what = nI 4 from by rw [k1_9]; decide), if_neg (show ¬ what = nI 5 from by rw [k1_9]; decide), if_neg (show ¬ what = nI 6 from by rw [k1_9]; decide), if_neg (show ¬ what = nI 7 from by rw [k1_9]; decide), if_pos k1_9] <;> rfl]; exact ⟨by first | rfl | exact hn1.symm | exact hk6.symm, rfl⟩)
  refine lv_tableOut (tgt := 124) hx hb dX5_count_1 (by rcases zsw9 (x := what) (by assumption) (by assumption) (by assumption) (by assumption) (by assumption) (by assumption) (by assumption) (by assumption) (by assumption) with q | q <;> first | exact Or.inl q | exact Or.inr q) (by decide) ?_
  refine lv_aload_n hx hb dX5_count_124 rfl (lv_at hl 0 rfl) ?_
  refine lv_iconst (v := nI 1) hx hb dX5_count_125 (by decide) ?_
  refine zci (wr := [(hS9, .inr (3, ft)), (hp, .inl (cI, 6, .inl ((fun c => S (8 + 4 * c + 2))))), (hV, .inr (4, vs))]) (va_runV (As := [.int (nI 1)]) (rest := []) ⟨hx, hb, hml, hown, hts⟩ (c_X5_refuse l D cI cJ h hE fs E 1 (by first | rfl | assumption | omega) (by first | rfl | assumption | omega) s.heap.size) (cwV 1 hts gX5_count_X5_refuse rfl rfl rfl (by decide +kernel) ⟨Nat.le_of_ble_eq_true rfl, Nat.le_of_ble_eq_true rfl⟩) (zpV hK hN hZ hP hD hS hA [0, 3] rfl (by decide) 0 rfl rfl rfl) rfl rfl hl.1 rfl (lv_room (Nat.le_of_ble_eq_true rfl)) dX5_count_126 ⟨Nat.zero_le _, Nat.zero_le _⟩) hP hD hS hA [0, 3] [1, 2, 4] rfl rfl (by decide) (by decide) (fun r_12 w_11 H locs h_10 hP hD hS => ?_)
  obtain ⟨rfl, rfl⟩ := h_10
  have hP : va_P D vwCl [(hS9, .inr (3, ft)), (hp, .inl (cI, 6, .inl ((fun c => S (8 + 4 * c + 2))))), (hV, .inr (4, vs)), (h, .inr (5, fs)), (hE, .inl (cI, 7, .inl (upd E 1 (E 1 + nI 1))))] H := hP
  have hD : va_D AA [(hS9, .inr (3, ft)), (hp, .inl (cI, 6, .inl ((fun c => S (8 + 4 * c + 2))))), (hV, .inr (4, vs)), (h, .inr (5, fs)), (hE, .inl (cI, 7, .inl (upd E 1 (E 1 + nI 1))))] := hD
  have hP := hP.sub (ws' := [(h, .inr (5, fs)), (hS9, .inr (3, ft)), (hp, .inl (cI, 6, .inl ((fun c => S (8 + 4 * c + 2))))), (hE, .inl (cI, 7, .inl (upd E 1 (E 1 + nI 1)))), (hV, .inr (4, vs))]) [3, 0, 1, 4, 2] rfl
  have hD := hD.sub (ws' := [(h, .inr (5, fs)), (hS9, .inr (3, ft)), (hp, .inl (cI, 6, .inl ((fun c => S (8 + 4 * c + 2))))), (hE, .inl (cI, 7, .inl (upd E 1 (E 1 + nI 1)))), (hV, .inr (4, vs))]) [3, 0, 1, 4, 2] (by decide) rfl
  exact hret hP hD hS dX5_count_129 rfl (by rw [show zo_count S E n k tr what = zerrE 1 S E from by rw [zo_count, if_neg k1_1, if_neg k1_2, if_neg k1_3, if_neg k1_4, if_neg k1_5, if_neg k1_6, if_neg k1_7, if_neg k1_8, if_neg k1_9] <;> rfl]; exact ⟨rfl, rfl⟩)
