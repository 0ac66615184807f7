
/-! the class's String constants, and String's own switch -/
def zG (ad bd : Nat → Nat) (A : Nat → Prop) (U : State) (H : Heap) : Prop := vk_S 3 [3, 3, 0] [[114, 115, 116], [115, 104, 99], []] ad bd A U H ∧ va_Z "java/lang/String" "COMPACT_STRINGS" "Z" (.int (nI 1)) A U H ∧ vk_R "UpAllRound" 119 "rst" (ad 0) U ∧ vk_R "UpAllRound" 121 "shc" (ad 1) U ∧ vk_R "UpAllRound$Reader" 26 "" (ad 2) U
theorem zG.to {ad bd : Nat → Nat} {A B : Nat → Prop} {u U : State} {H H1 : Heap} (h : zG ad bd A u H) (hW : u.WarmedH U.vm) (hq : ∀ a : Nat, a < H.size → ¬ A a → H1[a]? = H[a]?) (hB : ∀ q, B q → A q) : zG ad bd B U H1 :=
  ⟨((h.1.moved hW.alike).kept hq).narrow hB, ((h.2.1.moved hW.alike).kept hq).narrow hB, vk_R.same (u := u.setVm U.vm) rfl (h.2.2.1.warm hW |> fun q => vk_R.same (u := U) rfl q), vk_R.same (u := U) rfl (h.2.2.2.1.warm hW), vk_R.same (u := U) rfl (h.2.2.2.2.warm hW)⟩
/-- where a method begins that needs them -/
def zBs (ad bd : Nat → Nat) (D : va_G) (ty : zTy) (W0 : va_W) (sz : Nat) (U : State) : Prop := zB D ty W0 sz U ∧ zG ad bd (va_A W0 sz) U U.heap
theorem zBs.blind {ad bd : Nat → Nat} {D : va_G} {ty : zTy} {W0 : va_W} {sz : Nat} {av : List Value} : FrameBlind (va_Pc av (zBs ad bd D ty W0 sz)) := by
  intro a U g mk q
  obtain ⟨q0, qB, qG⟩ := q
  obtain ⟨e0, eB⟩ := zB.blind a U g mk ⟨q0, qB⟩
  exact ⟨e0, eB, vk_S.moved (u := U) (U := U.calling g mk a) (Vm.Alike.refl U.vm) qG.1, va_Z.moved (u := U) (U := U.calling g mk a) (Vm.Alike.refl U.vm) qG.2.1, vk_R.same (u := U) rfl qG.2.2.1, vk_R.same (u := U) rfl qG.2.2.2.1, vk_R.same (u := U) rfl qG.2.2.2.2⟩
def zTi (ad bd : Nat → Nat) (l : Launch) (y : MethodName) (ws : List Cond) (rm : Room) (D : va_G) (ty : zTy) (av : List Value) (W0 : va_W) (post : Int32 → va_W → Prop) : Prop := ∀ sz : Nat, Met l y ws rm (va_Pc av (zBs ad bd D ty W0 sz)) (va_Qi post (zE D (va_A W0 sz)) (va_A W0 sz)) 0 0 (va_A W0 sz)
def zUi (ad bd : Nat → Nat) (l : Launch) (y : MethodName) (ws : List Cond) (rm : Room) (D : va_G) (ty : zTy) (av : List Value) (W0 : va_W) (post : Int32 → Prop) : Prop := ∀ sz : Nat, Met l y ws rm (va_Pc av (zBs ad bd D ty W0 sz)) (vp_Si post) 0 0 (fun _ => False)
section ZCS
variable {p : Program} {l : Launch} {e : Env} {R : Room} {s : State} {m : MethodId} {args : Array Value} {below : List Frame} {meth : Method} {c : Code} {H : Heap} {locs : List Loc} {cells slots : Nat} {Q : State → Prop}
variable {ad bd : Nat → Nat} {D : va_G} {ty : zTy} {A : Nat → Prop} {W0 wc wr : va_W} {pc : Nat} {ls : Array Slot} {rest st0 : List Value} {cc : ByteArray} {a : Array Value}
theorem zBs.at (hG : zG ad bd A s s.heap) (hK : va_K D vwCl ty s) (hN : zN s) (hZ : zZ A s s.heap) (hP : va_P D vwCl wc H) (hD : va_D A wc) (hS : va_S A s.heap H locs) (hA : ∀ q, s.heap.size ≤ q → A q) (isC : List Nat) (hC : isC.map (fun i => wc[i]?) = W0.map some) (hn : va_nd isC = true) : ∀ U : State, U.heap = H → s.WarmedH U.vm → zBs ad bd D ty W0 H.size U := fun U hU hW =>
  ⟨zB.at hK hN hZ hP hD hS hA isC hC hn U hU hW, by rw [hU]; exact hG.to hW hS.2.1 (va_free hD hS hA isC hC)⟩
theorem zpVs {C : String} {b : Addr} {As : List Value} (hG : zG ad bd A s s.heap) (hK : va_K D vwCl ty s) (hN : zN s) (hZ : zZ A s s.heap) (hP : va_P D vwCl wc H) (hD : va_D A wc) (hS : va_S A s.heap H locs) (hA : ∀ q, s.heap.size ≤ q → A q) (isC : List Nat) (hC : isC.map (fun i => wc[i]?) = W0.map some) (hn : va_nd isC = true) (q0 : Nat) {ci : Nat} {fs : List Value} {q : vw_C} (he : wc[q0]? = some (b, .inr (ci, fs))) (hc : vwCl[ci]? = some q) (hq : q.1 = C) : PreV s H C b (va_Pc (.ref b :: As) (zBs ad bd D ty W0 H.size)) As :=
  ⟨zBs.blind, by subst hq; exact va_recv hK hP hc he, fun U hU hW => ⟨rfl, zBs.at hG hK hN hZ hP hD hS hA isC hC hn U hU hW⟩⟩
theorem zpVk {C : String} {u : Nat} {As : List Value} (hu : u < 3) (hC0 : "java/lang/String" = C) (hG : zG ad bd A s s.heap) (hK : va_K D vwCl ty s) (hN : zN s) (hZ : zZ A s s.heap) (hP : va_P D vwCl wc H) (hD : va_D A wc) (hS : va_S A s.heap H locs) (hA : ∀ q, s.heap.size ≤ q → A q) (isC : List Nat) (hC : isC.map (fun i => wc[i]?) = W0.map some) (hn : va_nd isC = true) : PreV s H C (ad u) (va_Pc (.ref (ad u) :: As) (zBs ad bd D ty W0 H.size)) As :=
  ⟨zBs.blind, by subst hC0; exact vk_recv hG.1 hu hS, fun U hU hW => ⟨rfl, zBs.at hG hK hN hZ hP hD hS hA isC hC hn U hU hW⟩⟩
theorem zpSs {As : List Value} (hG : zG ad bd A s s.heap) (hK : va_K D vwCl ty s) (hN : zN s) (hZ : zZ A s s.heap) (hP : va_P D vwCl wc H) (hD : va_D A wc) (hS : va_S A s.heap H locs) (hA : ∀ q, s.heap.size ≤ q → A q) (isC : List Nat) (hC : isC.map (fun i => wc[i]?) = W0.map some) (hn : va_nd isC = true) : PreS s H (va_Pc As (zBs ad bd D ty W0 H.size)) As :=
  ⟨zBs.blind, fun U hU hW => ⟨rfl, zBs.at hG hK hN hZ hP hD hS hA isC hC hn U hU hW⟩⟩
end ZCS
theorem zstarts {ad bd : Nat → Nat} {l : Launch} {y : MethodName} {ws ws' : List Cond} {rm : Room} {D : va_G} {ty : zTy} {av : List Value} {W0 : va_W} {sz : Nat} {Qc : Array Value → State → Outcome → State → Prop} {free : Addr → Prop} {cc : ByteArray} {maxL : Nat} {ret : Option FieldType} (hy : plainFor y = true) (hw : ws = Cond.code y cc maxL ret :: ws') (hlen : (lg_sl av).length ≤ maxL)
    (body : ∀ (p : Program) (e : Env) (s : State) (m : MethodId) (args : Array Value) (below : List Frame) (meth : Method) (c : Code) (ls : Array Slot), s.heap.size = sz → zSt p s m args meth c cc maxL ret y.cls ws D ty W0 (va_A W0 sz) ls av → zG ad bd (va_A W0 sz) s s.heap → W p l e rm s m args below meth c s.heap [] 0 0 (MQ below Qc args s 0 0 free) (F0 m 0 ls [])) : Met l y ws rm (va_Pc av (zBs ad bd D ty W0 sz)) Qc 0 0 free := by
  refine va_MetF (cc := cc) (maxL := maxL) (ret := ret) hy hw ?_
  intro p e s m args below meth c s₁ B hml hv
  obtain ⟨rfl, ⟨hsz, hP, hK, hD0, hN, hZ⟩, hG⟩ := hv
  have hown : s.vm.findClass y.cls = some m.cls := findClass_of_methodNamed B.named
  have hl := lv_entry av (n := maxL) hlen
  rw [lg_entry_eq]
  exact body p e s m _ below meth c _ hsz ⟨B.exec, B.bytes, hml, B.returns, B.notSynchronized, hown, atoms_spec (ws := ws) B.pre, hK, hN, hZ, hP, hD0.self (sz := sz), fun q h => Or.inr (by rw [← hsz]; exact h), va_S.rf, hl⟩ hG
theorem zTi.start {ad bd : Nat → Nat} {l : Launch} {y : MethodName} {ws ws' : List Cond} {rm : Room} {D : va_G} {ty : zTy} {av : List Value} {W0 : va_W} {post : Int32 → va_W → Prop} {cc : ByteArray} {maxL : Nat} {rt : FieldType} (hy : plainFor y = true) (hw : ws = Cond.code y cc maxL (some rt) :: ws') (hlen : (lg_sl av).length ≤ maxL)
    (body : ∀ (p : Program) (e : Env) (s : State) (m : MethodId) (args : Array Value) (below : List Frame) (meth : Method) (c : Code) (ls : Array Slot) (A : Nat → Prop) (Q : State → Prop), zSt p s m args meth c cc maxL (some rt) y.cls ws D ty W0 A ls av → zG ad bd A s s.heap → (∀ {w : va_W} {v : Int32} {H : Heap} {locs : List Loc} {pc : Nat} {ls : Array Slot}, va_P D vwCl w H → va_D A w → va_S A s.heap H locs → decode cc pc = .ok (.ireturn, 1) → narrow rt (.int v) = .int v → post v w → W p l e rm s m args below meth c H locs 0 0 Q (F0 m pc ls [.int v])) → W p l e rm s m args below meth c s.heap [] 0 0 Q (F0 m 0 ls [])) : zTi ad bd l y ws rm D ty av W0 post :=
  fun _ => zstarts hy hw hlen (fun p e s m args below meth c ls _ h hG => body p e s m args below meth c ls _ _ h hG (fun hP hD hS hdg hn hp => zreti h.1 h.2.1 h.2.2.2.1 h.2.2.2.2.1 hP hD hS hdg hn hp))
theorem zUi.start {ad bd : Nat → Nat} {l : Launch} {y : MethodName} {ws ws' : List Cond} {rm : Room} {D : va_G} {ty : zTy} {av : List Value} {W0 : va_W} {post : Int32 → Prop} {cc : ByteArray} {maxL : Nat} {rt : FieldType} (hy : plainFor y = true) (hw : ws = Cond.code y cc maxL (some rt) :: ws') (hlen : (lg_sl av).length ≤ maxL)
    (body : ∀ (p : Program) (e : Env) (s : State) (m : MethodId) (args : Array Value) (below : List Frame) (meth : Method) (c : Code) (ls : Array Slot) (A : Nat → Prop) (Q : State → Prop), zSt p s m args meth c cc maxL (some rt) y.cls ws D ty W0 A ls av → zG ad bd A s s.heap → (∀ {v : Int32} {pc : Nat} {ls : Array Slot}, decode cc pc = .ok (.ireturn, 1) → narrow rt (.int v) = .int v → post v → W p l e rm s m args below meth c s.heap [] 0 0 Q (F0 m pc ls [.int v])) → W p l e rm s m args below meth c s.heap [] 0 0 Q (F0 m 0 ls [])) : zUi ad bd l y ws rm D ty av W0 post :=
  fun _ => zstarts hy hw hlen (fun p e s m args below meth c ls _ h hG => body p e s m args below meth c ls _ _ h hG (fun hdg hn hp => zretsi h.1 h.2.1 h.2.2.2.1 h.2.2.2.2.1 hdg hn hp))
/-- the place of a NAME -/
def znr (c : Nat) : Option Nat := if c = 114 then some 0 else if c = 115 then some 1 else if c = 116 then some 2 else none
def zns (c : Nat) : Option Nat := if c = 115 then some 0 else if c = 104 then some 1 else if c = 99 then some 2 else none
def znx (u c : Nat) : Option Nat := if u = 0 then znr c else zns c
theorem znx_ch {u c j : Nat} (h : znx u c = some j) : zch u j = c ∧ j < 3 := by
  unfold znx at h
  unfold zch
  by_cases hu : u = 0
  · rw [if_pos hu] at h
    rw [if_pos hu]
    unfold znr at h
    split at h
    · cases h; omega
    · split at h
      · cases h; omega
      · split at h
        · cases h; omega
        · cases h
  · rw [if_neg hu] at h
    rw [if_neg hu]
    unfold zns at h
    split at h
    · cases h; exact ⟨by rw [if_pos rfl]; omega, by omega⟩
    · split at h
      · cases h; exact ⟨by rw [if_neg (by decide), if_pos rfl]; omega, by omega⟩
      · split at h
        · cases h; exact ⟨by rw [if_neg (by decide), if_neg (by decide)]; omega, by omega⟩
        · cases h
set_option maxRecDepth 100000 in
theorem zi2b : ∀ c, c < 256 → (nI 114 = (nI c).toInt8.toInt32 ↔ c = 114) ∧ (nI 115 = (nI c).toInt8.toInt32 ↔ c = 115) ∧ (nI 116 = (nI c).toInt8.toInt32 ↔ c = 116) ∧ (nI 104 = (nI c).toInt8.toInt32 ↔ c = 104) ∧ (nI 99 = (nI c).toInt8.toInt32 ↔ c = 99) := by decide +kernel
set_option maxRecDepth 100000 in
theorem zi2c : ∀ c, c < 256 → ((nI c).toUInt32 % 65536).toInt32 = nI c := by decide +kernel
set_option maxHeartbeats 4000000 in
set_option maxRecDepth 100000 in
theorem c_J1_canEncode (l : Launch) (D : va_G) (cI cJ : ClassId) (ad : Nat → Nat) (bd : Nat → Nat) (c : Nat) (hc : c < 256) : zUi ad bd l yJ1_canEncode_9a6ad wsJ1_canEncode_9a6ad ({ frames := 0, cells := 0, slots := 0, locals := 0 } : Room) D [(cI, .int), (cJ, .array .int)] [.int (nI c)] [] (fun r => r = nI 1) := by
  refine zUi.start (cc := cJ1_canEncode_9a6ad) (maxL := 1) (rt := .boolean) (by first | decide | decide +kernel) rfl (Nat.le_of_ble_eq_true rfl) ?_
  intro pg ev s mt args below meth cd ls AA QQ ⟨hx, hb, hml, hr, hlocks, hown, hts, hK, hN, hZ, hP, hD, hA, hS, hl⟩ hG hret
  have hown : s.vm.findClass RJ1 = some mt.cls := hown
  have hl : lv_has ls 1 [(0, .int (nI c))] := hl
  refine lv_iload_n hx hb dJ1_canEncode_9a6ad_0 rfl (lv_at hl 0 rfl) ?_
  refine lv_if_lt (tgt := 15) hx hb dJ1_canEncode_9a6ad_1 (by decide) (fun c1_1 => ?_) (fun c1_1 => ?_)
  · have c1_1 : c < 0 := (nI_ltI (a := c) (b := 0) (by omega) (by omega)).mp c1_1
    exact absurd c1_1 (by omega)
  · have c1_1 : ¬ (c < 0) := fun h9 => c1_1 ((nI_ltI (a := c) (b := 0) (by omega) (by omega)).mpr h9)
    refine lv_iload_n hx hb dJ1_canEncode_9a6ad_4 rfl (lv_at hl 0 rfl) ?_
    refine lv_sipush (v := nI 255) hx hb dJ1_canEncode_9a6ad_5 (by decide) ?_
    refine lv_icmp_gt (tgt := 15) hx hb dJ1_canEncode_9a6ad_8 (by decide) (fun c8_2 => ?_) (fun c8_2 => ?_)
    · have c8_2 : 255 < c := (nI_ltI (a := 255) (b := c) (by omega) (by omega)).mp c8_2
      exact absurd c8_2 (by omega)
    · have c8_2 : ¬ (255 < c) := fun h9 => c8_2 ((nI_ltI (a := 255) (b := c) (by omega) (by omega)).mpr h9)
      refine lv_iconst (v := nI 1) hx hb dJ1_canEncode_9a6ad_11 (by decide) ?_
      refine lv_goto (tgt := 16) hx hb dJ1_canEncode_9a6ad_12 (by decide) ?_
      exact hret dJ1_canEncode_9a6ad_16 rfl (by rfl)
set_option maxHeartbeats 4000000 in
set_option maxRecDepth 100000 in
theorem c_J0_isLatin1 (l : Launch) (D : va_G) (cI cJ : ClassId) (ad : Nat → Nat) (bd : Nat → Nat) (u : Nat) (hu : u < 3) : zUi ad bd l yJ0_isLatin1_aae02 wsJ0_isLatin1_aae02 ({ frames := 0, cells := 0, slots := 0, locals := 0 } : Room) D [(cI, .int), (cJ, .array .int)] [.ref (ad u)] [] (fun r => r = nI 1) := by
  refine zUi.start (cc := cJ0_isLatin1_aae02) (maxL := 1) (rt := .boolean) (by first | decide | decide +kernel) rfl (Nat.le_of_ble_eq_true rfl) ?_
  intro pg ev s mt args below meth cd ls AA QQ ⟨hx, hb, hml, hr, hlocks, hown, hts, hK, hN, hZ, hP, hD, hA, hS, hl⟩ hG hret
  have hown : s.vm.findClass RJ0 = some mt.cls := hown
  have hl : lv_has ls 1 [(0, .ref (ad u))] := hl
  refine va_gets hx hb hG.2.1 hS hown (hts (.fieldLink RJ0 38 "java/lang/String" "COMPACT_STRINGS" "Z") (List.mem_of_getElem? (i := 1) rfl)) (fun _ h9 => h9) dJ0_isLatin1_aae02_0 ?_
  refine lv_if_eq (tgt := 17) hx hb dJ0_isLatin1_aae02_3 (by decide) (fun c3_1 => ?_) (fun c3_1 => ?_)
  · have c3_1 : 1 = 0 := (nI_eq (a := 1) (b := 0) (by omega) (by omega)).mp c3_1
    exact absurd c3_1 (by omega)
  · have c3_1 : ¬ (1 = 0) := fun h9 => c3_1 ((nI_eq (a := 1) (b := 0) (by omega) (by omega)).mpr h9)
    refine lv_aload_n hx hb dJ0_isLatin1_aae02_6 rfl (lv_at hl 0 rfl) ?_
    refine vk_getf (v := .int (nI 0)) hx hb (hG.1.1 u (show u < 3 by omega)).2.1 hS hown (hts (.fieldLink RJ0 15 "java/lang/String" "coder" "B") (List.mem_of_getElem? (i := 2) rfl)) (fun _ h9 => h9) dJ0_isLatin1_aae02_7 ?_
    refine lv_if_ne (tgt := 17) hx hb dJ0_isLatin1_aae02_10 (by decide) (fun c10_2 => ?_) (fun c10_2 => ?_)
    · have c10_2 : ¬ (0 = 0) := fun h9 => c10_2 ((nI_eq (a := 0) (b := 0) (by omega) (by omega)).mpr h9)
      exact absurd c10_2 (by omega)
    · have c10_2 : 0 = 0 := (nI_eq (a := 0) (b := 0) (by omega) (by omega)).mp c10_2
      refine lv_iconst (v := nI 1) hx hb dJ0_isLatin1_aae02_13 (by decide) ?_
      refine lv_goto (tgt := 18) hx hb dJ0_isLatin1_aae02_14 (by decide) ?_
      exact hret dJ0_isLatin1_aae02_18 rfl (by rfl)
set_option maxHeartbeats 4000000 in
set_option maxRecDepth 100000 in
theorem c_J0_coder (l : Launch) (D : va_G) (cI cJ : ClassId) (ad : Nat → Nat) (bd : Nat → Nat) (u : Nat) (hu : u < 3) : zUi ad bd l yJ0_coder_7d493 wsJ0_coder_7d493 ({ frames := 0, cells := 0, slots := 0, locals := 0 } : Room) D [(cI, .int), (cJ, .array .int)] [.ref (ad u)] [] (fun r => r = nI 0) := by
  refine zUi.start (cc := cJ0_coder_7d493) (maxL := 1) (rt := .byte) (by first | decide | decide +kernel) rfl (Nat.le_of_ble_eq_true rfl) ?_
  intro pg ev s mt args below meth cd ls AA QQ ⟨hx, hb, hml, hr, hlocks, hown, hts, hK, hN, hZ, hP, hD, hA, hS, hl⟩ hG hret
  have hown : s.vm.findClass RJ0 = some mt.cls := hown
  have hl : lv_has ls 1 [(0, .ref (ad u))] := hl
  refine va_gets hx hb hG.2.1 hS hown (hts (.fieldLink RJ0 38 "java/lang/String" "COMPACT_STRINGS" "Z") (List.mem_of_getElem? (i := 1) rfl)) (fun _ h9 => h9) dJ0_coder_7d493_0 ?_
  refine lv_if_eq (tgt := 13) hx hb dJ0_coder_7d493_3 (by decide) (fun c3_1 => ?_) (fun c3_1 => ?_)
  · have c3_1 : 1 = 0 := (nI_eq (a := 1) (b := 0) (by omega) (by omega)).mp c3_1
    exact absurd c3_1 (by omega)
  · have c3_1 : ¬ (1 = 0) := fun h9 => c3_1 ((nI_eq (a := 1) (b := 0) (by omega) (by omega)).mpr h9)
    refine lv_aload_n hx hb dJ0_coder_7d493_6 rfl (lv_at hl 0 rfl) ?_
    refine vk_getf (v := .int (nI 0)) hx hb (hG.1.1 u (show u < 3 by omega)).2.1 hS hown (hts (.fieldLink RJ0 15 "java/lang/String" "coder" "B") (List.mem_of_getElem? (i := 2) rfl)) (fun _ h9 => h9) dJ0_coder_7d493_7 ?_
    refine lv_goto (tgt := 14) hx hb dJ0_coder_7d493_10 (by decide) ?_
    exact hret dJ0_coder_7d493_14 rfl (by rfl)
set_option maxHeartbeats 4000000 in
set_option maxRecDepth 100000 in
theorem c_J0_length_0 (l : Launch) (D : va_G) (cI cJ : ClassId) (ad : Nat → Nat) (bd : Nat → Nat)  : zUi ad bd l yJ0_length_8abf5 wsJ0_length_8abf5 ({ frames := 1, cells := 0, slots := 0, locals := 20 } : Room) D [(cI, .int), (cJ, .array .int)] [.ref (ad 0)] [] (fun r => r = nI 3) := by
  refine zUi.start (cc := cJ0_length_8abf5) (maxL := 1) (rt := .int) (by first | decide | decide +kernel) rfl (Nat.le_of_ble_eq_true rfl) ?_
  intro pg ev s mt args below meth cd ls AA QQ ⟨hx, hb, hml, hr, hlocks, hown, hts, hK, hN, hZ, hP, hD, hA, hS, hl⟩ hG hret
  have hown : s.vm.findClass RJ0 = some mt.cls := hown
  have hl : lv_has ls 1 [(0, .ref (ad 0))] := hl
  refine lv_aload_n hx hb dJ0_length_8abf5_0 rfl (lv_at hl 0 rfl) ?_
  refine vk_getf (v := .ref (bd 0)) hx hb (hG.1.1 0 (show 0 < 3 by decide)).2.2.1 hS hown (hts (.fieldLink RJ0 9 "java/lang/String" "value" "[B") (List.mem_of_getElem? (i := 1) rfl)) (fun _ h9 => h9) dJ0_length_8abf5_1 ?_
  refine va_tlen (v := nI 3) hx hb (hG.1.1 0 (by decide)).2.2.2 hS rfl dJ0_length_8abf5_4 ?_
  refine lv_aload_n hx hb dJ0_length_8abf5_5 rfl (lv_at hl 0 rfl) ?_
  refine zcsE (va_runV (As := []) (rest := [.int (nI 3)]) ⟨hx, hb, hml, hown, hts⟩ (c_J0_coder l D cI cJ ad bd 0 (by decide) s.heap.size) (cwV 0 hts gJ0_length_8abf5_J0_coder_7d493 rfl rfl rfl (by decide +kernel) ⟨Nat.le_of_ble_eq_true rfl, Nat.le_of_ble_eq_true rfl⟩) (zpVk (show 0 < 3 by decide) rfl hG hK hN hZ hP hD hS hA [] rfl (by decide)) rfl rfl hl.1 rfl (lv_room (Nat.le_of_ble_eq_true rfl)) dJ0_length_8abf5_6 ⟨Nat.zero_le _, Nat.zero_le _⟩) ?_
  refine lv_ishr hx hb dJ0_length_8abf5_9 ?_
  refine zrw (show nI 3 >>> (nI 0 &&& 31) = nI 3 by decide) ?_
  exact hret dJ0_length_8abf5_10 rfl (by rfl)
set_option maxHeartbeats 4000000 in
set_option maxRecDepth 100000 in
theorem c_J1_indexOfChar_0 (l : Launch) (D : va_G) (cI cJ : ClassId) (ad : Nat → Nat) (bd : Nat → Nat) (c : Nat) (hc : c < 256) : zUi ad bd l yJ1_indexOfChar_4cfef wsJ1_indexOfChar_4cfef ({ frames := 0, cells := 0, slots := 0, locals := 0 } : Room) D [(cI, .int), (cJ, .array .int)] [.ref (bd 0), .int (nI c), .int (nI 0), .int (nI 3)] [] (fun r => r = zbw (znx 0 c)) := by
  refine zUi.start (cc := cJ1_indexOfChar_4cfef) (maxL := 6) (rt := .int) (by first | decide | decide +kernel) rfl (Nat.le_of_ble_eq_true rfl) ?_
  intro pg ev s mt args below meth cd ls AA QQ ⟨hx, hb, hml, hr, hlocks, hown, hts, hK, hN, hZ, hP, hD, hA, hS, hl⟩ hG hret
  have hown : s.vm.findClass RJ1 = some mt.cls := hown
  have hl : lv_has ls 6 [(0, .ref (bd 0)), (1, .int (nI c)), (2, .int (nI 0)), (3, .int (nI 3))] := hl
  refine lv_iload_n hx hb dJ1_indexOfChar_4cfef_0 rfl (lv_at hl 1 rfl) ?_
  refine lv_i2b (v := (nI c).toInt8.toInt32) hx hb dJ1_indexOfChar_4cfef_1 rfl ?_
  refine lv_topi (fun bb ebb => ?_)
  refine lv_istore (lv' := [(4, .int bb), (0, .ref (bd 0)), (1, .int (nI c)), (2, .int (nI 0)), (3, .int (nI 3))]) hx hb dJ1_indexOfChar_4cfef_2 hl (by decide) rfl (fun ls hl => ?_)
  refine lv_iload_n hx hb dJ1_indexOfChar_4cfef_4 rfl (lv_at hl 3 rfl) ?_
  refine lv_istore (lv' := [(5, .int (nI 0)), (4, .int bb), (0, .ref (bd 0)), (1, .int (nI c)), (2, .int (nI 0)), (3, .int (nI 3))]) hx hb dJ1_indexOfChar_4cfef_5 hl (by decide) rfl (fun ls hl => ?_)
  refine lv_iload hx hb dJ1_indexOfChar_4cfef_7 (lv_at hl 0 rfl) ?_
  refine lv_iload_n hx hb dJ1_indexOfChar_4cfef_9 rfl (lv_at hl 5 rfl) ?_
  refine lv_icmp_ge (tgt := 31) hx hb dJ1_indexOfChar_4cfef_10 (by decide) (fun c10_1 => ?_) (fun c10_1 => ?_)
  · have c10_1 : 3 ≤ 0 := (nI_leI (a := 3) (b := 0) (by omega) (by omega)).mp c10_1
    exact absurd c10_1 (by omega)
  · have c10_1 : ¬ (3 ≤ 0) := fun h9 => c10_1 ((nI_leI (a := 3) (b := 0) (by omega) (by omega)).mpr h9)
    refine lv_aload_n hx hb dJ1_indexOfChar_4cfef_13 rfl (lv_at hl 2 rfl) ?_
    refine lv_iload hx hb dJ1_indexOfChar_4cfef_14 (lv_at hl 0 rfl) ?_
    refine va_tb (v := .int (nI 114)) hx hb (hG.1.1 0 (by decide)).2.2.2 hS (vp_in_nI (show 0 < 3 by decide) (by decide)) (by rw [nI_clamp (show 0 < 2147483648 by decide)] <;> rfl) dJ1_indexOfChar_4cfef_16 ?_
    refine lv_iload hx hb dJ1_indexOfChar_4cfef_17 (lv_at hl 1 rfl) ?_
    refine lv_icmp_ne (tgt := 25) hx hb dJ1_indexOfChar_4cfef_19 (by decide) (fun c19_2 => ?_) (fun c19_2 => ?_)
    · have k_114 : ¬ c = 114 := fun h9 => c19_2 (by rw [ebb]; exact ((zi2b c hc).1).mpr h9)
      refine lv_iinc (v := nI (0 + 1)) (lv' := [(5, .int (nI (0 + 1))), (4, .int bb), (0, .ref (bd 0)), (1, .int (nI c)), (2, .int (nI 0)), (3, .int (nI 3))]) hx hb dJ1_indexOfChar_4cfef_25 hl (k := 0) rfl (nI_add _ _) (by decide) rfl (fun ls hl => ?_)
      refine lv_goto (tgt := 7) hx hb dJ1_indexOfChar_4cfef_28 (by decide) ?_
      refine lv_iload hx hb dJ1_indexOfChar_4cfef_7 (lv_at hl 0 rfl) ?_
      refine lv_iload_n hx hb dJ1_indexOfChar_4cfef_9 rfl (lv_at hl 5 rfl) ?_
      refine lv_icmp_ge (tgt := 31) hx hb dJ1_indexOfChar_4cfef_10 (by decide) (fun c10_3 => ?_) (fun c10_3 => ?_)
      · have c10_3 : 3 ≤ (0 + 1) := (nI_leI (a := 3) (b := 0 + 1) (by omega) (by omega)).mp c10_3
        exact absurd c10_3 (by omega)
      · have c10_3 : ¬ (3 ≤ (0 + 1)) := fun h9 => c10_3 ((nI_leI (a := 3) (b := 0 + 1) (by omega) (by omega)).mpr h9)
        refine lv_aload_n hx hb dJ1_indexOfChar_4cfef_13 rfl (lv_at hl 2 rfl) ?_
        refine lv_iload hx hb dJ1_indexOfChar_4cfef_14 (lv_at hl 0 rfl) ?_
        refine va_tb (v := .int (nI 115)) hx hb (hG.1.1 0 (by decide)).2.2.2 hS (vp_in_nI (show 1 < 3 by decide) (by decide)) (by rw [nI_clamp (show 1 < 2147483648 by decide)] <;> rfl) dJ1_indexOfChar_4cfef_16 ?_
        refine lv_iload hx hb dJ1_indexOfChar_4cfef_17 (lv_at hl 1 rfl) ?_
        refine lv_icmp_ne (tgt := 25) hx hb dJ1_indexOfChar_4cfef_19 (by decide) (fun c19_4 => ?_) (fun c19_4 => ?_)
        · have k_115 : ¬ c = 115 := fun h9 => c19_4 (by rw [ebb]; exact ((zi2b c hc).2.1).mpr h9)
          refine lv_iinc (v := nI (0 + 1 + 1)) (lv' := [(5, .int (nI (0 + 1 + 1))), (4, .int bb), (0, .ref (bd 0)), (1, .int (nI c)), (2, .int (nI 0)), (3, .int (nI 3))]) hx hb dJ1_indexOfChar_4cfef_25 hl (k := 0) rfl (nI_add _ _) (by decide) rfl (fun ls hl => ?_)
          refine lv_goto (tgt := 7) hx hb dJ1_indexOfChar_4cfef_28 (by decide) ?_
          refine lv_iload hx hb dJ1_indexOfChar_4cfef_7 (lv_at hl 0 rfl) ?_
          refine lv_iload_n hx hb dJ1_indexOfChar_4cfef_9 rfl (lv_at hl 5 rfl) ?_
          refine lv_icmp_ge (tgt := 31) hx hb dJ1_indexOfChar_4cfef_10 (by decide) (fun c10_5 => ?_) (fun c10_5 => ?_)
          · have c10_5 : 3 ≤ (0 + 1 + 1) := (nI_leI (a := 3) (b := 0 + 1 + 1) (by omega) (by omega)).mp c10_5
            exact absurd c10_5 (by omega)
          · have c10_5 : ¬ (3 ≤ (0 + 1 + 1)) := fun h9 => c10_5 ((nI_leI (a := 3) (b := 0 + 1 + 1) (by omega) (by omega)).mpr h9)
            refine lv_aload_n hx hb dJ1_indexOfChar_4cfef_13 rfl (lv_at hl 2 rfl) ?_
            refine lv_iload hx hb dJ1_indexOfChar_4cfef_14 (lv_at hl 0 rfl) ?_
            refine va_tb (v := .int (nI 116)) hx hb (hG.1.1 0 (by decide)).2.2.2 hS (vp_in_nI (show 2 < 3 by decide) (by decide)) (by rw [nI_clamp (show 2 < 2147483648 by decide)] <;> rfl) dJ1_indexOfChar_4cfef_16 ?_
            refine lv_iload hx hb dJ1_indexOfChar_4cfef_17 (lv_at hl 1 rfl) ?_
            refine lv_icmp_ne (tgt := 25) hx hb dJ1_indexOfChar_4cfef_19 (by decide) (fun c19_6 => ?_) (fun c19_6 => ?_)
            · have k_116 : ¬ c = 116 := fun h9 => c19_6 (by rw [ebb]; exact ((zi2b c hc).2.2.1).mpr h9)
              refine lv_iinc (v := nI (0 + 1 + 1 + 1)) (lv' := [(5, .int (nI (0 + 1 + 1 + 1))), (4, .int bb), (0, .ref (bd 0)), (1, .int (nI c)), (2, .int (nI 0)), (3, .int (nI 3))]) hx hb dJ1_indexOfChar_4cfef_25 hl (k := 0) rfl (nI_add _ _) (by decide) rfl (fun ls hl => ?_)
              refine lv_goto (tgt := 7) hx hb dJ1_indexOfChar_4cfef_28 (by decide) ?_
              refine lv_iload hx hb dJ1_indexOfChar_4cfef_7 (lv_at hl 0 rfl) ?_
              refine lv_iload_n hx hb dJ1_indexOfChar_4cfef_9 rfl (lv_at hl 5 rfl) ?_
              refine lv_icmp_ge (tgt := 31) hx hb dJ1_indexOfChar_4cfef_10 (by decide) (fun c10_7 => ?_) (fun c10_7 => ?_)
              · have c10_7 : 3 ≤ (0 + 1 + 1 + 1) := (nI_leI (a := 3) (b := 0 + 1 + 1 + 1) (by omega) (by omega)).mp c10_7
                refine lv_iconst (v := (-1)) hx hb dJ1_indexOfChar_4cfef_31 (by decide) ?_
                exact hret dJ1_indexOfChar_4cfef_32 rfl (by rw [show znx 0 c = znr c from rfl, znr, if_neg k_114, if_neg k_115, if_neg k_116] <;> rfl)
              · have c10_7 : ¬ (3 ≤ (0 + 1 + 1 + 1)) := fun h9 => c10_7 ((nI_leI (a := 3) (b := 0 + 1 + 1 + 1) (by omega) (by omega)).mpr h9)
                exact absurd c10_7 (by omega)
            · have k_116 : c = 116 := ((zi2b c hc).2.2.1).mp (by rw [← ebb]; exact c19_6)
              refine lv_iload hx hb dJ1_indexOfChar_4cfef_22 (lv_at hl 0 rfl) ?_
              exact hret dJ1_indexOfChar_4cfef_24 rfl (by rw [show znx 0 c = znr c from rfl, znr, if_neg k_114, if_neg k_115, if_pos k_116] <;> rfl)
        · have k_115 : c = 115 := ((zi2b c hc).2.1).mp (by rw [← ebb]; exact c19_4)
          refine lv_iload hx hb dJ1_indexOfChar_4cfef_22 (lv_at hl 0 rfl) ?_
          exact hret dJ1_indexOfChar_4cfef_24 rfl (by rw [show znx 0 c = znr c from rfl, znr, if_neg k_114, if_pos k_115] <;> rfl)
    · have k_114 : c = 114 := ((zi2b c hc).1).mp (by rw [← ebb]; exact c19_2)
      refine lv_iload hx hb dJ1_indexOfChar_4cfef_22 (lv_at hl 0 rfl) ?_
      exact hret dJ1_indexOfChar_4cfef_24 rfl (by rw [show znx 0 c = znr c from rfl, znr, if_pos k_114] <;> rfl)
set_option maxHeartbeats 4000000 in
set_option maxRecDepth 100000 in
theorem c_J1_indexOf_0 (l : Launch) (D : va_G) (cI cJ : ClassId) (ad : Nat → Nat) (bd : Nat → Nat) (c : Nat) (hc : c < 256) : zUi ad bd l yJ1_indexOf_4cfef wsJ1_indexOf_4cfef ({ frames := 1, cells := 0, slots := 0, locals := 25 } : Room) D [(cI, .int), (cJ, .array .int)] [.ref (bd 0), .int (nI c), .int (nI 0), .int (nI 3)] [] (fun r => r = zbw (znx 0 c)) := by
  refine zUi.start (cc := cJ1_indexOf_4cfef) (maxL := 4) (rt := .int) (by first | decide | decide +kernel) rfl (Nat.le_of_ble_eq_true rfl) ?_
  intro pg ev s mt args below meth cd ls AA QQ ⟨hx, hb, hml, hr, hlocks, hown, hts, hK, hN, hZ, hP, hD, hA, hS, hl⟩ hG hret
  have hown : s.vm.findClass RJ1 = some mt.cls := hown
  have hl : lv_has ls 4 [(0, .ref (bd 0)), (1, .int (nI c)), (2, .int (nI 0)), (3, .int (nI 3))] := hl
  refine lv_iload_n hx hb dJ1_indexOf_4cfef_0 rfl (lv_at hl 1 rfl) ?_
  refine zcsE (va_runS (As := [.int (nI c)]) (rest := []) ⟨hx, hb, hml, hown, hts⟩ (c_J1_canEncode l D cI cJ ad bd c (by first | rfl | assumption | omega) s.heap.size) (va_cwS 1 hts gJ1_indexOf_4cfef_J1_canEncode_9a6ad rfl rfl rfl (by decide +kernel) ⟨Nat.le_of_ble_eq_true rfl, Nat.le_of_ble_eq_true rfl⟩) (zpSs hG hK hN hZ hP hD hS hA [] rfl (by decide)) rfl rfl hl.1 rfl (lv_room (Nat.le_of_ble_eq_true rfl)) dJ1_indexOf_4cfef_1 ⟨Nat.zero_le _, Nat.zero_le _⟩) ?_
  refine lv_if_ne (tgt := 9) hx hb dJ1_indexOf_4cfef_4 (by decide) (fun c4_1 => ?_) (fun c4_1 => ?_)
  · have c4_1 : ¬ (1 = 0) := fun h9 => c4_1 ((nI_eq (a := 1) (b := 0) (by omega) (by omega)).mpr h9)
    refine lv_iload_n hx hb dJ1_indexOf_4cfef_9 rfl (lv_at hl 2 rfl) ?_
    refine lv_iconst (v := nI 0) hx hb dJ1_indexOf_4cfef_10 (by decide) ?_
    refine va_mmax hx hb (by rw [hml]; exact hl.1.symm) hown (hts (.methodLink RJ1 92 Lib.Math.max.name) (List.mem_of_getElem? (i := 1) rfl)) (hts (.static Lib.Math.max.name) (List.mem_of_getElem? (i := 2) rfl)) (hts (.initialized "java/lang/Math") (List.mem_of_getElem? (i := 3) rfl)) (hts (.code Lib.Math.max.name Lib.Math.max.code 2 (some .int)) (List.mem_of_getElem? (i := 4) rfl)) (Nat.le_of_ble_eq_true rfl) (Nat.le_of_ble_eq_true rfl) (Nat.zero_le _) (Nat.zero_le _) dJ1_indexOf_4cfef_11 ?_
    refine zrw (show (if (nI 0) < (nI 0) then (nI 0) else (nI 0) : Int32) = nI 0 by decide) ?_
    refine lv_istore_n (lv' := [(2, .int (nI 0)), (0, .ref (bd 0)), (1, .int (nI c)), (3, .int (nI 3))]) hx hb dJ1_indexOf_4cfef_14 rfl hl (by decide) rfl (fun ls hl => ?_)
    refine lv_iload_n hx hb dJ1_indexOf_4cfef_15 rfl (lv_at hl 3 rfl) ?_
    refine lv_aload_n hx hb dJ1_indexOf_4cfef_16 rfl (lv_at hl 1 rfl) ?_
    refine va_tlen (v := nI 3) hx hb (hG.1.1 0 (by decide)).2.2.2 hS rfl dJ1_indexOf_4cfef_17 ?_
    refine va_mmin hx hb (by rw [hml]; exact hl.1.symm) hown (hts (.methodLink RJ1 38 Lib.Math.min.name) (List.mem_of_getElem? (i := 5) rfl)) (hts (.static Lib.Math.min.name) (List.mem_of_getElem? (i := 6) rfl)) (hts (.initialized "java/lang/Math") (List.mem_of_getElem? (i := 3) rfl)) (hts (.code Lib.Math.min.name Lib.Math.min.code 2 (some .int)) (List.mem_of_getElem? (i := 7) rfl)) (Nat.le_of_ble_eq_true rfl) (Nat.le_of_ble_eq_true rfl) (Nat.zero_le _) (Nat.zero_le _) dJ1_indexOf_4cfef_18 ?_
    refine zrw (show (if (nI 3) < (nI 3) then (nI 3) else (nI 3) : Int32) = nI 3 by decide) ?_
    refine lv_istore_n (lv' := [(3, .int (nI 3)), (2, .int (nI 0)), (0, .ref (bd 0)), (1, .int (nI c))]) hx hb dJ1_indexOf_4cfef_21 rfl hl (by decide) rfl (fun ls hl => ?_)
    refine lv_iload_n hx hb dJ1_indexOf_4cfef_22 rfl (lv_at hl 1 rfl) ?_
    refine lv_iload_n hx hb dJ1_indexOf_4cfef_23 rfl (lv_at hl 0 rfl) ?_
    refine lv_icmp_lt (tgt := 29) hx hb dJ1_indexOf_4cfef_24 (by decide) (fun c24_2 => ?_) (fun c24_2 => ?_)
    · have c24_2 : 0 < 3 := (nI_ltI (a := 0) (b := 3) (by omega) (by omega)).mp c24_2
      refine lv_aload_n hx hb dJ1_indexOf_4cfef_29 rfl (lv_at hl 2 rfl) ?_
      refine lv_iload_n hx hb dJ1_indexOf_4cfef_30 rfl (lv_at hl 3 rfl) ?_
      refine lv_iload_n hx hb dJ1_indexOf_4cfef_31 rfl (lv_at hl 1 rfl) ?_
      refine lv_iload_n hx hb dJ1_indexOf_4cfef_32 rfl (lv_at hl 0 rfl) ?_
      refine zcsE (va_runS (As := [.ref (bd 0), .int (nI c), .int (nI 0), .int (nI 3)]) (rest := []) ⟨hx, hb, hml, hown, hts⟩ (c_J1_indexOfChar_0 l D cI cJ ad bd c (by first | rfl | assumption | omega) s.heap.size) (va_cwS 4 hts gJ1_indexOf_4cfef_J1_indexOfChar_4cfef rfl rfl rfl (by decide +kernel) ⟨Nat.le_of_ble_eq_true rfl, Nat.le_of_ble_eq_true rfl⟩) (zpSs hG hK hN hZ hP hD hS hA [] rfl (by decide)) rfl rfl hl.1 rfl (lv_room (Nat.le_of_ble_eq_true rfl)) dJ1_indexOf_4cfef_33 ⟨Nat.zero_le _, Nat.zero_le _⟩) ?_
      exact hret dJ1_indexOf_4cfef_36 rfl (by rfl)
    · have c24_2 : ¬ (0 < 3) := fun h9 => c24_2 ((nI_ltI (a := 0) (b := 3) (by omega) (by omega)).mpr h9)
      exact absurd c24_2 (by omega)
  · have c4_1 : 1 = 0 := (nI_eq (a := 1) (b := 0) (by omega) (by omega)).mp c4_1
    exact absurd c4_1 (by omega)
set_option maxHeartbeats 4000000 in
set_option maxRecDepth 100000 in
theorem c_J0_indexOf2_0 (l : Launch) (D : va_G) (cI cJ : ClassId) (ad : Nat → Nat) (bd : Nat → Nat) (c : Nat) (hc : c < 256) : zUi ad bd l yJ0_indexOf_7cf53 wsJ0_indexOf_7cf53 ({ frames := 2, cells := 0, slots := 0, locals := 48 } : Room) D [(cI, .int), (cJ, .array .int)] [.ref (ad 0), .int (nI c), .int (nI 0)] [] (fun r => r = zbw (znx 0 c)) := by
  refine zUi.start (cc := cJ0_indexOf_7cf53) (maxL := 3) (rt := .int) (by first | decide | decide +kernel) rfl (Nat.le_of_ble_eq_true rfl) ?_
  intro pg ev s mt args below meth cd ls AA QQ ⟨hx, hb, hml, hr, hlocks, hown, hts, hK, hN, hZ, hP, hD, hA, hS, hl⟩ hG hret
  have hown : s.vm.findClass RJ0 = some mt.cls := hown
  have hl : lv_has ls 3 [(0, .ref (ad 0)), (1, .int (nI c)), (2, .int (nI 0))] := hl
  refine lv_aload_n hx hb dJ0_indexOf_7cf53_0 rfl (lv_at hl 0 rfl) ?_
  refine zcsE (va_runV (As := []) (rest := []) ⟨hx, hb, hml, hown, hts⟩ (c_J0_isLatin1 l D cI cJ ad bd 0 (by decide) s.heap.size) (cwV 0 hts gJ0_indexOf_7cf53_J0_isLatin1_aae02 rfl rfl rfl (by decide +kernel) ⟨Nat.le_of_ble_eq_true rfl, Nat.le_of_ble_eq_true rfl⟩) (zpVk (show 0 < 3 by decide) rfl hG hK hN hZ hP hD hS hA [] rfl (by decide)) rfl rfl hl.1 rfl (lv_room (Nat.le_of_ble_eq_true rfl)) dJ0_indexOf_7cf53_1 ⟨Nat.zero_le _, Nat.zero_le _⟩) ?_
  refine lv_if_eq (tgt := 23) hx hb dJ0_indexOf_7cf53_4 (by decide) (fun c4_1 => ?_) (fun c4_1 => ?_)
  · have c4_1 : 1 = 0 := (nI_eq (a := 1) (b := 0) (by omega) (by omega)).mp c4_1
    exact absurd c4_1 (by omega)
  · have c4_1 : ¬ (1 = 0) := fun h9 => c4_1 ((nI_eq (a := 1) (b := 0) (by omega) (by omega)).mpr h9)
    refine lv_aload_n hx hb dJ0_indexOf_7cf53_7 rfl (lv_at hl 0 rfl) ?_
    refine vk_getf (v := .ref (bd 0)) hx hb (hG.1.1 0 (show 0 < 3 by decide)).2.2.1 hS hown (hts (.fieldLink RJ0 9 "java/lang/String" "value" "[B") (List.mem_of_getElem? (i := 1) rfl)) (fun _ h9 => h9) dJ0_indexOf_7cf53_8 ?_
    refine lv_iload_n hx hb dJ0_indexOf_7cf53_11 rfl (lv_at hl 1 rfl) ?_
    refine lv_iload_n hx hb dJ0_indexOf_7cf53_12 rfl (lv_at hl 2 rfl) ?_
    refine lv_aload_n hx hb dJ0_indexOf_7cf53_13 rfl (lv_at hl 0 rfl) ?_
    refine zcsE (va_runV (As := []) (rest := [.int (nI 0), .int (nI c), .ref (bd 0)]) ⟨hx, hb, hml, hown, hts⟩ (c_J0_length_0 l D cI cJ ad bd  s.heap.size) (cwV 0 hts gJ0_indexOf_7cf53_J0_length_8abf5 rfl rfl rfl (by decide +kernel) ⟨Nat.le_of_ble_eq_true rfl, Nat.le_of_ble_eq_true rfl⟩) (zpVk (show 0 < 3 by decide) rfl hG hK hN hZ hP hD hS hA [] rfl (by decide)) rfl rfl hl.1 rfl (lv_room (Nat.le_of_ble_eq_true rfl)) dJ0_indexOf_7cf53_14 ⟨Nat.zero_le _, Nat.zero_le _⟩) ?_
    refine zcsE (va_runS (As := [.ref (bd 0), .int (nI c), .int (nI 0), .int (nI 3)]) (rest := []) ⟨hx, hb, hml, hown, hts⟩ (c_J1_indexOf_0 l D cI cJ ad bd c (by first | rfl | assumption | omega) s.heap.size) (va_cwS 4 hts gJ0_indexOf_7cf53_J1_indexOf_4cfef rfl rfl rfl (by decide +kernel) ⟨Nat.le_of_ble_eq_true rfl, Nat.le_of_ble_eq_true rfl⟩) (zpSs hG hK hN hZ hP hD hS hA [] rfl (by decide)) rfl rfl hl.1 rfl (lv_room (Nat.le_of_ble_eq_true rfl)) dJ0_indexOf_7cf53_17 ⟨Nat.zero_le _, Nat.zero_le _⟩) ?_
    refine lv_goto (tgt := 36) hx hb dJ0_indexOf_7cf53_20 (by decide) ?_
    exact hret dJ0_indexOf_7cf53_36 rfl (by rfl)
set_option maxHeartbeats 4000000 in
set_option maxRecDepth 100000 in
theorem c_J0_indexOf_0 (l : Launch) (D : va_G) (cI cJ : ClassId) (ad : Nat → Nat) (bd : Nat → Nat) (c : Nat) (hc : c < 256) : zUi ad bd l yJ0_indexOf_0f7a4 wsJ0_indexOf_0f7a4 ({ frames := 3, cells := 0, slots := 0, locals := 70 } : Room) D [(cI, .int), (cJ, .array .int)] [.ref (ad 0), .int (nI c)] [] (fun r => r = zbw (znx 0 c)) := by
  refine zUi.start (cc := cJ0_indexOf_0f7a4) (maxL := 2) (rt := .int) (by first | decide | decide +kernel) rfl (Nat.le_of_ble_eq_true rfl) ?_
  intro pg ev s mt args below meth cd ls AA QQ ⟨hx, hb, hml, hr, hlocks, hown, hts, hK, hN, hZ, hP, hD, hA, hS, hl⟩ hG hret
  have hown : s.vm.findClass RJ0 = some mt.cls := hown
  have hl : lv_has ls 2 [(0, .ref (ad 0)), (1, .int (nI c))] := hl
  refine lv_aload_n hx hb dJ0_indexOf_0f7a4_0 rfl (lv_at hl 0 rfl) ?_
  refine lv_iload_n hx hb dJ0_indexOf_0f7a4_1 rfl (lv_at hl 1 rfl) ?_
  refine lv_iconst (v := nI 0) hx hb dJ0_indexOf_0f7a4_2 (by decide) ?_
  refine zcsE (va_runV (As := [.int (nI c), .int (nI 0)]) (rest := []) ⟨hx, hb, hml, hown, hts⟩ (c_J0_indexOf2_0 l D cI cJ ad bd c (by first | rfl | assumption | omega) s.heap.size) (cwV 2 hts gJ0_indexOf_0f7a4_J0_indexOf_7cf53 rfl rfl rfl (by decide +kernel) ⟨Nat.le_of_ble_eq_true rfl, Nat.le_of_ble_eq_true rfl⟩) (zpVk (show 0 < 3 by decide) rfl hG hK hN hZ hP hD hS hA [] rfl (by decide)) rfl rfl hl.1 rfl (lv_room (Nat.le_of_ble_eq_true rfl)) dJ0_indexOf_0f7a4_3 ⟨Nat.zero_le _, Nat.zero_le _⟩) ?_
  exact hret dJ0_indexOf_0f7a4_6 rfl (by rfl)
set_option maxHeartbeats 4000000 in
set_option maxRecDepth 100000 in
theorem c_J0_length_1 (l : Launch) (D : va_G) (cI cJ : ClassId) (ad : Nat → Nat) (bd : Nat → Nat)  : zUi ad bd l yJ0_length_8abf5 wsJ0_length_8abf5 ({ frames := 1, cells := 0, slots := 0, locals := 20 } : Room) D [(cI, .int), (cJ, .array .int)] [.ref (ad 1)] [] (fun r => r = nI 3) := by
  refine zUi.start (cc := cJ0_length_8abf5) (maxL := 1) (rt := .int) (by first | decide | decide +kernel) rfl (Nat.le_of_ble_eq_true rfl) ?_
  intro pg ev s mt args below meth cd ls AA QQ ⟨hx, hb, hml, hr, hlocks, hown, hts, hK, hN, hZ, hP, hD, hA, hS, hl⟩ hG hret
  have hown : s.vm.findClass RJ0 = some mt.cls := hown
  have hl : lv_has ls 1 [(0, .ref (ad 1))] := hl
  refine lv_aload_n hx hb dJ0_length_8abf5_0 rfl (lv_at hl 0 rfl) ?_
  refine vk_getf (v := .ref (bd 1)) hx hb (hG.1.1 1 (show 1 < 3 by decide)).2.2.1 hS hown (hts (.fieldLink RJ0 9 "java/lang/String" "value" "[B") (List.mem_of_getElem? (i := 1) rfl)) (fun _ h9 => h9) dJ0_length_8abf5_1 ?_
  refine va_tlen (v := nI 3) hx hb (hG.1.1 1 (by decide)).2.2.2 hS rfl dJ0_length_8abf5_4 ?_
  refine lv_aload_n hx hb dJ0_length_8abf5_5 rfl (lv_at hl 0 rfl) ?_
  refine zcsE (va_runV (As := []) (rest := [.int (nI 3)]) ⟨hx, hb, hml, hown, hts⟩ (c_J0_coder l D cI cJ ad bd 1 (by decide) s.heap.size) (cwV 0 hts gJ0_length_8abf5_J0_coder_7d493 rfl rfl rfl (by decide +kernel) ⟨Nat.le_of_ble_eq_true rfl, Nat.le_of_ble_eq_true rfl⟩) (zpVk (show 1 < 3 by decide) rfl hG hK hN hZ hP hD hS hA [] rfl (by decide)) rfl rfl hl.1 rfl (lv_room (Nat.le_of_ble_eq_true rfl)) dJ0_length_8abf5_6 ⟨Nat.zero_le _, Nat.zero_le _⟩) ?_
  refine lv_ishr hx hb dJ0_length_8abf5_9 ?_
  refine zrw (show nI 3 >>> (nI 0 &&& 31) = nI 3 by decide) ?_
  exact hret dJ0_length_8abf5_10 rfl (by rfl)
set_option maxHeartbeats 4000000 in
set_option maxRecDepth 100000 in
theorem c_J1_indexOfChar_1 (l : Launch) (D : va_G) (cI cJ : ClassId) (ad : Nat → Nat) (bd : Nat → Nat) (c : Nat) (hc : c < 256) : zUi ad bd l yJ1_indexOfChar_4cfef wsJ1_indexOfChar_4cfef ({ frames := 0, cells := 0, slots := 0, locals := 0 } : Room) D [(cI, .int), (cJ, .array .int)] [.ref (bd 1), .int (nI c), .int (nI 0), .int (nI 3)] [] (fun r => r = zbw (znx 1 c)) := by
  refine zUi.start (cc := cJ1_indexOfChar_4cfef) (maxL := 6) (rt := .int) (by first | decide | decide +kernel) rfl (Nat.le_of_ble_eq_true rfl) ?_
  intro pg ev s mt args below meth cd ls AA QQ ⟨hx, hb, hml, hr, hlocks, hown, hts, hK, hN, hZ, hP, hD, hA, hS, hl⟩ hG hret
  have hown : s.vm.findClass RJ1 = some mt.cls := hown
  have hl : lv_has ls 6 [(0, .ref (bd 1)), (1, .int (nI c)), (2, .int (nI 0)), (3, .int (nI 3))] := hl
  refine lv_iload_n hx hb dJ1_indexOfChar_4cfef_0 rfl (lv_at hl 1 rfl) ?_
  refine lv_i2b (v := (nI c).toInt8.toInt32) hx hb dJ1_indexOfChar_4cfef_1 rfl ?_
  refine lv_topi (fun bb ebb => ?_)
  refine lv_istore (lv' := [(4, .int bb), (0, .ref (bd 1)), (1, .int (nI c)), (2, .int (nI 0)), (3, .int (nI 3))]) hx hb dJ1_indexOfChar_4cfef_2 hl (by decide) rfl (fun ls hl => ?_)
  refine lv_iload_n hx hb dJ1_indexOfChar_4cfef_4 rfl (lv_at hl 3 rfl) ?_
  refine lv_istore (lv' := [(5, .int (nI 0)), (4, .int bb), (0, .ref (bd 1)), (1, .int (nI c)), (2, .int (nI 0)), (3, .int (nI 3))]) hx hb dJ1_indexOfChar_4cfef_5 hl (by decide) rfl (fun ls hl => ?_)
  refine lv_iload hx hb dJ1_indexOfChar_4cfef_7 (lv_at hl 0 rfl) ?_
  refine lv_iload_n hx hb dJ1_indexOfChar_4cfef_9 rfl (lv_at hl 5 rfl) ?_
  refine lv_icmp_ge (tgt := 31) hx hb dJ1_indexOfChar_4cfef_10 (by decide) (fun c10_1 => ?_) (fun c10_1 => ?_)
  · have c10_1 : 3 ≤ 0 := (nI_leI (a := 3) (b := 0) (by omega) (by omega)).mp c10_1
    exact absurd c10_1 (by omega)
  · have c10_1 : ¬ (3 ≤ 0) := fun h9 => c10_1 ((nI_leI (a := 3) (b := 0) (by omega) (by omega)).mpr h9)
    refine lv_aload_n hx hb dJ1_indexOfChar_4cfef_13 rfl (lv_at hl 2 rfl) ?_
    refine lv_iload hx hb dJ1_indexOfChar_4cfef_14 (lv_at hl 0 rfl) ?_
    refine va_tb (v := .int (nI 115)) hx hb (hG.1.1 1 (by decide)).2.2.2 hS (vp_in_nI (show 0 < 3 by decide) (by decide)) (by rw [nI_clamp (show 0 < 2147483648 by decide)] <;> rfl) dJ1_indexOfChar_4cfef_16 ?_
    refine lv_iload hx hb dJ1_indexOfChar_4cfef_17 (lv_at hl 1 rfl) ?_
    refine lv_icmp_ne (tgt := 25) hx hb dJ1_indexOfChar_4cfef_19 (by decide) (fun c19_2 => ?_) (fun c19_2 => ?_)
    · have k_115 : ¬ c = 115 := fun h9 => c19_2 (by rw [ebb]; exact ((zi2b c hc).2.1).mpr h9)
      refine lv_iinc (v := nI (0 + 1)) (lv' := [(5, .int (nI (0 + 1))), (4, .int bb), (0, .ref (bd 1)), (1, .int (nI c)), (2, .int (nI 0)), (3, .int (nI 3))]) hx hb dJ1_indexOfChar_4cfef_25 hl (k := 0) rfl (nI_add _ _) (by decide) rfl (fun ls hl => ?_)
      refine lv_goto (tgt := 7) hx hb dJ1_indexOfChar_4cfef_28 (by decide) ?_
      refine lv_iload hx hb dJ1_indexOfChar_4cfef_7 (lv_at hl 0 rfl) ?_
      refine lv_iload_n hx hb dJ1_indexOfChar_4cfef_9 rfl (lv_at hl 5 rfl) ?_
      refine lv_icmp_ge (tgt := 31) hx hb dJ1_indexOfChar_4cfef_10 (by decide) (fun c10_3 => ?_) (fun c10_3 => ?_)
      · have c10_3 : 3 ≤ (0 + 1) := (nI_leI (a := 3) (b := 0 + 1) (by omega) (by omega)).mp c10_3
        exact absurd c10_3 (by omega)
      · have c10_3 : ¬ (3 ≤ (0 + 1)) := fun h9 => c10_3 ((nI_leI (a := 3) (b := 0 + 1) (by omega) (by omega)).mpr h9)
        refine lv_aload_n hx hb dJ1_indexOfChar_4cfef_13 rfl (lv_at hl 2 rfl) ?_
        refine lv_iload hx hb dJ1_indexOfChar_4cfef_14 (lv_at hl 0 rfl) ?_
        refine va_tb (v := .int (nI 104)) hx hb (hG.1.1 1 (by decide)).2.2.2 hS (vp_in_nI (show 1 < 3 by decide) (by decide)) (by rw [nI_clamp (show 1 < 2147483648 by decide)] <;> rfl) dJ1_indexOfChar_4cfef_16 ?_
        refine lv_iload hx hb dJ1_indexOfChar_4cfef_17 (lv_at hl 1 rfl) ?_
        refine lv_icmp_ne (tgt := 25) hx hb dJ1_indexOfChar_4cfef_19 (by decide) (fun c19_4 => ?_) (fun c19_4 => ?_)
        · have k_104 : ¬ c = 104 := fun h9 => c19_4 (by rw [ebb]; exact ((zi2b c hc).2.2.2.1).mpr h9)
          refine lv_iinc (v := nI (0 + 1 + 1)) (lv' := [(5, .int (nI (0 + 1 + 1))), (4, .int bb), (0, .ref (bd 1)), (1, .int (nI c)), (2, .int (nI 0)), (3, .int (nI 3))]) hx hb dJ1_indexOfChar_4cfef_25 hl (k := 0) rfl (nI_add _ _) (by decide) rfl (fun ls hl => ?_)
          refine lv_goto (tgt := 7) hx hb dJ1_indexOfChar_4cfef_28 (by decide) ?_
          refine lv_iload hx hb dJ1_indexOfChar_4cfef_7 (lv_at hl 0 rfl) ?_
          refine lv_iload_n hx hb dJ1_indexOfChar_4cfef_9 rfl (lv_at hl 5 rfl) ?_
          refine lv_icmp_ge (tgt := 31) hx hb dJ1_indexOfChar_4cfef_10 (by decide) (fun c10_5 => ?_) (fun c10_5 => ?_)
          · have c10_5 : 3 ≤ (0 + 1 + 1) := (nI_leI (a := 3) (b := 0 + 1 + 1) (by omega) (by omega)).mp c10_5
            exact absurd c10_5 (by omega)
          · have c10_5 : ¬ (3 ≤ (0 + 1 + 1)) := fun h9 => c10_5 ((nI_leI (a := 3) (b := 0 + 1 + 1) (by omega) (by omega)).mpr h9)
            refine lv_aload_n hx hb dJ1_indexOfChar_4cfef_13 rfl (lv_at hl 2 rfl) ?_
            refine lv_iload hx hb dJ1_indexOfChar_4cfef_14 (lv_at hl 0 rfl) ?_
            refine va_tb (v := .int (nI 99)) hx hb (hG.1.1 1 (by decide)).2.2.2 hS (vp_in_nI (show 2 < 3 by decide) (by decide)) (by rw [nI_clamp (show 2 < 2147483648 by decide)] <;> rfl) dJ1_indexOfChar_4cfef_16 ?_
            refine lv_iload hx hb dJ1_indexOfChar_4cfef_17 (lv_at hl 1 rfl) ?_
            refine lv_icmp_ne (tgt := 25) hx hb dJ1_indexOfChar_4cfef_19 (by decide) (fun c19_6 => ?_) (fun c19_6 => ?_)
            · have k_99 : ¬ c = 99 := fun h9 => c19_6 (by rw [ebb]; exact ((zi2b c hc).2.2.2.2).mpr h9)
              refine lv_iinc (v := nI (0 + 1 + 1 + 1)) (lv' := [(5, .int (nI (0 + 1 + 1 + 1))), (4, .int bb), (0, .ref (bd 1)), (1, .int (nI c)), (2, .int (nI 0)), (3, .int (nI 3))]) hx hb dJ1_indexOfChar_4cfef_25 hl (k := 0) rfl (nI_add _ _) (by decide) rfl (fun ls hl => ?_)
              refine lv_goto (tgt := 7) hx hb dJ1_indexOfChar_4cfef_28 (by decide) ?_
              refine lv_iload hx hb dJ1_indexOfChar_4cfef_7 (lv_at hl 0 rfl) ?_
              refine lv_iload_n hx hb dJ1_indexOfChar_4cfef_9 rfl (lv_at hl 5 rfl) ?_
              refine lv_icmp_ge (tgt := 31) hx hb dJ1_indexOfChar_4cfef_10 (by decide) (fun c10_7 => ?_) (fun c10_7 => ?_)
              · have c10_7 : 3 ≤ (0 + 1 + 1 + 1) := (nI_leI (a := 3) (b := 0 + 1 + 1 + 1) (by omega) (by omega)).mp c10_7
                refine lv_iconst (v := (-1)) hx hb dJ1_indexOfChar_4cfef_31 (by decide) ?_
                exact hret dJ1_indexOfChar_4cfef_32 rfl (by rw [show znx 1 c = zns c from rfl, zns, if_neg k_115, if_neg k_104, if_neg k_99] <;> rfl)
              · have c10_7 : ¬ (3 ≤ (0 + 1 + 1 + 1)) := fun h9 => c10_7 ((nI_leI (a := 3) (b := 0 + 1 + 1 + 1) (by omega) (by omega)).mpr h9)
                exact absurd c10_7 (by omega)
            · have k_99 : c = 99 := ((zi2b c hc).2.2.2.2).mp (by rw [← ebb]; exact c19_6)
              refine lv_iload hx hb dJ1_indexOfChar_4cfef_22 (lv_at hl 0 rfl) ?_
              exact hret dJ1_indexOfChar_4cfef_24 rfl (by rw [show znx 1 c = zns c from rfl, zns, if_neg k_115, if_neg k_104, if_pos k_99] <;> rfl)
        · have k_104 : c = 104 := ((zi2b c hc).2.2.2.1).mp (by rw [← ebb]; exact c19_4)
          refine lv_iload hx hb dJ1_indexOfChar_4cfef_22 (lv_at hl 0 rfl) ?_
          exact hret dJ1_indexOfChar_4cfef_24 rfl (by rw [show znx 1 c = zns c from rfl, zns, if_neg k_115, if_pos k_104] <;> rfl)
    · have k_115 : c = 115 := ((zi2b c hc).2.1).mp (by rw [← ebb]; exact c19_2)
      refine lv_iload hx hb dJ1_indexOfChar_4cfef_22 (lv_at hl 0 rfl) ?_
      exact hret dJ1_indexOfChar_4cfef_24 rfl (by rw [show znx 1 c = zns c from rfl, zns, if_pos k_115] <;> rfl)
set_option maxHeartbeats 4000000 in
set_option maxRecDepth 100000 in
theorem c_J1_indexOf_1 (l : Launch) (D : va_G) (cI cJ : ClassId) (ad : Nat → Nat) (bd : Nat → Nat) (c : Nat) (hc : c < 256) : zUi ad bd l yJ1_indexOf_4cfef wsJ1_indexOf_4cfef ({ frames := 1, cells := 0, slots := 0, locals := 25 } : Room) D [(cI, .int), (cJ, .array .int)] [.ref (bd 1), .int (nI c), .int (nI 0), .int (nI 3)] [] (fun r => r = zbw (znx 1 c)) := by
  refine zUi.start (cc := cJ1_indexOf_4cfef) (maxL := 4) (rt := .int) (by first | decide | decide +kernel) rfl (Nat.le_of_ble_eq_true rfl) ?_
  intro pg ev s mt args below meth cd ls AA QQ ⟨hx, hb, hml, hr, hlocks, hown, hts, hK, hN, hZ, hP, hD, hA, hS, hl⟩ hG hret
  have hown : s.vm.findClass RJ1 = some mt.cls := hown
  have hl : lv_has ls 4 [(0, .ref (bd 1)), (1, .int (nI c)), (2, .int (nI 0)), (3, .int (nI 3))] := hl
  refine lv_iload_n hx hb dJ1_indexOf_4cfef_0 rfl (lv_at hl 1 rfl) ?_
  refine zcsE (va_runS (As := [.int (nI c)]) (rest := []) ⟨hx, hb, hml, hown, hts⟩ (c_J1_canEncode l D cI cJ ad bd c (by first | rfl | assumption | omega) s.heap.size) (va_cwS 1 hts gJ1_indexOf_4cfef_J1_canEncode_9a6ad rfl rfl rfl (by decide +kernel) ⟨Nat.le_of_ble_eq_true rfl, Nat.le_of_ble_eq_true rfl⟩) (zpSs hG hK hN hZ hP hD hS hA [] rfl (by decide)) rfl rfl hl.1 rfl (lv_room (Nat.le_of_ble_eq_true rfl)) dJ1_indexOf_4cfef_1 ⟨Nat.zero_le _, Nat.zero_le _⟩) ?_
  refine lv_if_ne (tgt := 9) hx hb dJ1_indexOf_4cfef_4 (by decide) (fun c4_1 => ?_) (fun c4_1 => ?_)
  · have c4_1 : ¬ (1 = 0) := fun h9 => c4_1 ((nI_eq (a := 1) (b := 0) (by omega) (by omega)).mpr h9)
    refine lv_iload_n hx hb dJ1_indexOf_4cfef_9 rfl (lv_at hl 2 rfl) ?_
    refine lv_iconst (v := nI 0) hx hb dJ1_indexOf_4cfef_10 (by decide) ?_
    refine va_mmax hx hb (by rw [hml]; exact hl.1.symm) hown (hts (.methodLink RJ1 92 Lib.Math.max.name) (List.mem_of_getElem? (i := 1) rfl)) (hts (.static Lib.Math.max.name) (List.mem_of_getElem? (i := 2) rfl)) (hts (.initialized "java/lang/Math") (List.mem_of_getElem? (i := 3) rfl)) (hts (.code Lib.Math.max.name Lib.Math.max.code 2 (some .int)) (List.mem_of_getElem? (i := 4) rfl)) (Nat.le_of_ble_eq_true rfl) (Nat.le_of_ble_eq_true rfl) (Nat.zero_le _) (Nat.zero_le _) dJ1_indexOf_4cfef_11 ?_
    refine zrw (show (if (nI 0) < (nI 0) then (nI 0) else (nI 0) : Int32) = nI 0 by decide) ?_
    refine lv_istore_n (lv' := [(2, .int (nI 0)), (0, .ref (bd 1)), (1, .int (nI c)), (3, .int (nI 3))]) hx hb dJ1_indexOf_4cfef_14 rfl hl (by decide) rfl (fun ls hl => ?_)
    refine lv_iload_n hx hb dJ1_indexOf_4cfef_15 rfl (lv_at hl 3 rfl) ?_
    refine lv_aload_n hx hb dJ1_indexOf_4cfef_16 rfl (lv_at hl 1 rfl) ?_
    refine va_tlen (v := nI 3) hx hb (hG.1.1 1 (by decide)).2.2.2 hS rfl dJ1_indexOf_4cfef_17 ?_
    refine va_mmin hx hb (by rw [hml]; exact hl.1.symm) hown (hts (.methodLink RJ1 38 Lib.Math.min.name) (List.mem_of_getElem? (i := 5) rfl)) (hts (.static Lib.Math.min.name) (List.mem_of_getElem? (i := 6) rfl)) (hts (.initialized "java/lang/Math") (List.mem_of_getElem? (i := 3) rfl)) (hts (.code Lib.Math.min.name Lib.Math.min.code 2 (some .int)) (List.mem_of_getElem? (i := 7) rfl)) (Nat.le_of_ble_eq_true rfl) (Nat.le_of_ble_eq_true rfl) (Nat.zero_le _) (Nat.zero_le _) dJ1_indexOf_4cfef_18 ?_
    refine zrw (show (if (nI 3) < (nI 3) then (nI 3) else (nI 3) : Int32) = nI 3 by decide) ?_
    refine lv_istore_n (lv' := [(3, .int (nI 3)), (2, .int (nI 0)), (0, .ref (bd 1)), (1, .int (nI c))]) hx hb dJ1_indexOf_4cfef_21 rfl hl (by decide) rfl (fun ls hl => ?_)
    refine lv_iload_n hx hb dJ1_indexOf_4cfef_22 rfl (lv_at hl 1 rfl) ?_
    refine lv_iload_n hx hb dJ1_indexOf_4cfef_23 rfl (lv_at hl 0 rfl) ?_
    refine lv_icmp_lt (tgt := 29) hx hb dJ1_indexOf_4cfef_24 (by decide) (fun c24_2 => ?_) (fun c24_2 => ?_)
    · have c24_2 : 0 < 3 := (nI_ltI (a := 0) (b := 3) (by omega) (by omega)).mp c24_2
      refine lv_aload_n hx hb dJ1_indexOf_4cfef_29 rfl (lv_at hl 2 rfl) ?_
      refine lv_iload_n hx hb dJ1_indexOf_4cfef_30 rfl (lv_at hl 3 rfl) ?_
      refine lv_iload_n hx hb dJ1_indexOf_4cfef_31 rfl (lv_at hl 1 rfl) ?_
      refine lv_iload_n hx hb dJ1_indexOf_4cfef_32 rfl (lv_at hl 0 rfl) ?_
      refine zcsE (va_runS (As := [.ref (bd 1), .int (nI c), .int (nI 0), .int (nI 3)]) (rest := []) ⟨hx, hb, hml, hown, hts⟩ (c_J1_indexOfChar_1 l D cI cJ ad bd c (by first | rfl | assumption | omega) s.heap.size) (va_cwS 4 hts gJ1_indexOf_4cfef_J1_indexOfChar_4cfef rfl rfl rfl (by decide +kernel) ⟨Nat.le_of_ble_eq_true rfl, Nat.le_of_ble_eq_true rfl⟩) (zpSs hG hK hN hZ hP hD hS hA [] rfl (by decide)) rfl rfl hl.1 rfl (lv_room (Nat.le_of_ble_eq_true rfl)) dJ1_indexOf_4cfef_33 ⟨Nat.zero_le _, Nat.zero_le _⟩) ?_
      exact hret dJ1_indexOf_4cfef_36 rfl (by rfl)
    · have c24_2 : ¬ (0 < 3) := fun h9 => c24_2 ((nI_ltI (a := 0) (b := 3) (by omega) (by omega)).mpr h9)
      exact absurd c24_2 (by omega)
  · have c4_1 : 1 = 0 := (nI_eq (a := 1) (b := 0) (by omega) (by omega)).mp c4_1
    exact absurd c4_1 (by omega)
set_option maxHeartbeats 4000000 in
set_option maxRecDepth 100000 in
theorem c_J0_indexOf2_1 (l : Launch) (D : va_G) (cI cJ : ClassId) (ad : Nat → Nat) (bd : Nat → Nat) (c : Nat) (hc : c < 256) : zUi ad bd l yJ0_indexOf_7cf53 wsJ0_indexOf_7cf53 ({ frames := 2, cells := 0, slots := 0, locals := 48 } : Room) D [(cI, .int), (cJ, .array .int)] [.ref (ad 1), .int (nI c), .int (nI 0)] [] (fun r => r = zbw (znx 1 c)) := by
  refine zUi.start (cc := cJ0_indexOf_7cf53) (maxL := 3) (rt := .int) (by first | decide | decide +kernel) rfl (Nat.le_of_ble_eq_true rfl) ?_
  intro pg ev s mt args below meth cd ls AA QQ ⟨hx, hb, hml, hr, hlocks, hown, hts, hK, hN, hZ, hP, hD, hA, hS, hl⟩ hG hret
  have hown : s.vm.findClass RJ0 = some mt.cls := hown
  have hl : lv_has ls 3 [(0, .ref (ad 1)), (1, .int (nI c)), (2, .int (nI 0))] := hl
  refine lv_aload_n hx hb dJ0_indexOf_7cf53_0 rfl (lv_at hl 0 rfl) ?_
  refine zcsE (va_runV (As := []) (rest := []) ⟨hx, hb, hml, hown, hts⟩ (c_J0_isLatin1 l D cI cJ ad bd 1 (by decide) s.heap.size) (cwV 0 hts gJ0_indexOf_7cf53_J0_isLatin1_aae02 rfl rfl rfl (by decide +kernel) ⟨Nat.le_of_ble_eq_true rfl, Nat.le_of_ble_eq_true rfl⟩) (zpVk (show 1 < 3 by decide) rfl hG hK hN hZ hP hD hS hA [] rfl (by decide)) rfl rfl hl.1 rfl (lv_room (Nat.le_of_ble_eq_true rfl)) dJ0_indexOf_7cf53_1 ⟨Nat.zero_le _, Nat.zero_le _⟩) ?_
  refine lv_if_eq (tgt := 23) hx hb dJ0_indexOf_7cf53_4 (by decide) (fun c4_1 => ?_) (fun c4_1 => ?_)
  · have c4_1 : 1 = 0 := (nI_eq (a := 1) (b := 0) (by omega) (by omega)).mp c4_1
    exact absurd c4_1 (by omega)
  · have c4_1 : ¬ (1 = 0) := fun h9 => c4_1 ((nI_eq (a := 1) (b := 0) (by omega) (by omega)).mpr h9)
    refine lv_aload_n hx hb dJ0_indexOf_7cf53_7 rfl (lv_at hl 0 rfl) ?_
    refine vk_getf (v := .ref (bd 1)) hx hb (hG.1.1 1 (show 1 < 3 by decide)).2.2.1 hS hown (hts (.fieldLink RJ0 9 "java/lang/String" "value" "[B") (List.mem_of_getElem? (i := 1) rfl)) (fun _ h9 => h9) dJ0_indexOf_7cf53_8 ?_
    refine lv_iload_n hx hb dJ0_indexOf_7cf53_11 rfl (lv_at hl 1 rfl) ?_
    refine lv_iload_n hx hb dJ0_indexOf_7cf53_12 rfl (lv_at hl 2 rfl) ?_
    refine lv_aload_n hx hb dJ0_indexOf_7cf53_13 rfl (lv_at hl 0 rfl) ?_
    refine zcsE (va_runV (As := []) (rest := [.int (nI 0), .int (nI c), .ref (bd 1)]) ⟨hx, hb, hml, hown, hts⟩ (c_J0_length_1 l D cI cJ ad bd  s.heap.size) (cwV 0 hts gJ0_indexOf_7cf53_J0_length_8abf5 rfl rfl rfl (by decide +kernel) ⟨Nat.le_of_ble_eq_true rfl, Nat.le_of_ble_eq_true rfl⟩) (zpVk (show 1 < 3 by decide) rfl hG hK hN hZ hP hD hS hA [] rfl (by decide)) rfl rfl hl.1 rfl (lv_room (Nat.le_of_ble_eq_true rfl)) dJ0_indexOf_7cf53_14 ⟨Nat.zero_le _, Nat.zero_le _⟩) ?_
    refine zcsE (va_runS (As := [.ref (bd 1), .int (nI c), .int (nI 0), .int (nI 3)]) (rest := []) ⟨hx, hb, hml, hown, hts⟩ (c_J1_indexOf_1 l D cI cJ ad bd c (by first | rfl | assumption | omega) s.heap.size) (va_cwS 4 hts gJ0_indexOf_7cf53_J1_indexOf_4cfef rfl rfl rfl (by decide +kernel) ⟨Nat.le_of_ble_eq_true rfl, Nat.le_of_ble_eq_true rfl⟩) (zpSs hG hK hN hZ hP hD hS hA [] rfl (by decide)) rfl rfl hl.1 rfl (lv_room (Nat.le_of_ble_eq_true rfl)) dJ0_indexOf_7cf53_17 ⟨Nat.zero_le _, Nat.zero_le _⟩) ?_
    refine lv_goto (tgt := 36) hx hb dJ0_indexOf_7cf53_20 (by decide) ?_
    exact hret dJ0_indexOf_7cf53_36 rfl (by rfl)
set_option maxHeartbeats 4000000 in
set_option maxRecDepth 100000 in
theorem c_J0_indexOf_1 (l : Launch) (D : va_G) (cI cJ : ClassId) (ad : Nat → Nat) (bd : Nat → Nat) (c : Nat) (hc : c < 256) : zUi ad bd l yJ0_indexOf_0f7a4 wsJ0_indexOf_0f7a4 ({ frames := 3, cells := 0, slots := 0, locals := 70 } : Room) D [(cI, .int), (cJ, .array .int)] [.ref (ad 1), .int (nI c)] [] (fun r => r = zbw (znx 1 c)) := by
  refine zUi.start (cc := cJ0_indexOf_0f7a4) (maxL := 2) (rt := .int) (by first | decide | decide +kernel) rfl (Nat.le_of_ble_eq_true rfl) ?_
  intro pg ev s mt args below meth cd ls AA QQ ⟨hx, hb, hml, hr, hlocks, hown, hts, hK, hN, hZ, hP, hD, hA, hS, hl⟩ hG hret
  have hown : s.vm.findClass RJ0 = some mt.cls := hown
  have hl : lv_has ls 2 [(0, .ref (ad 1)), (1, .int (nI c))] := hl
  refine lv_aload_n hx hb dJ0_indexOf_0f7a4_0 rfl (lv_at hl 0 rfl) ?_
  refine lv_iload_n hx hb dJ0_indexOf_0f7a4_1 rfl (lv_at hl 1 rfl) ?_
  refine lv_iconst (v := nI 0) hx hb dJ0_indexOf_0f7a4_2 (by decide) ?_
  refine zcsE (va_runV (As := [.int (nI c), .int (nI 0)]) (rest := []) ⟨hx, hb, hml, hown, hts⟩ (c_J0_indexOf2_1 l D cI cJ ad bd c (by first | rfl | assumption | omega) s.heap.size) (cwV 2 hts gJ0_indexOf_0f7a4_J0_indexOf_7cf53 rfl rfl rfl (by decide +kernel) ⟨Nat.le_of_ble_eq_true rfl, Nat.le_of_ble_eq_true rfl⟩) (zpVk (show 1 < 3 by decide) rfl hG hK hN hZ hP hD hS hA [] rfl (by decide)) rfl rfl hl.1 rfl (lv_room (Nat.le_of_ble_eq_true rfl)) dJ0_indexOf_0f7a4_3 ⟨Nat.zero_le _, Nat.zero_le _⟩) ?_
  exact hret dJ0_indexOf_0f7a4_6 rfl (by rfl)
theorem c_J0_indexOf (l : Launch) (D : va_G) (cI cJ : ClassId) (ad bd : Nat → Nat) (u c : Nat) (hu1 : u ≤ 1) (hc : c < 256) : zUi ad bd l yJ0_indexOf_0f7a4 wsJ0_indexOf_0f7a4 ({ frames := 3, cells := 0, slots := 0, locals := 70 } : Room) D [(cI, .int), (cJ, .array .int)] [.ref (ad u), .int (nI c)] [] (fun r => r = zbw (znx u c)) := by
  rcases (show u = 0 ∨ u = 1 by omega) with h | h <;> subst h
  · exact c_J0_indexOf_0 l D cI cJ ad bd c hc
  · exact c_J0_indexOf_1 l D cI cJ ad bd c hc
