abbrev vwCl : List vw_C := [(RX0, TX0, 3), (RX1, TX1, 5), (RX2, TX2, 3), (RX3, TX3, 16), (RX4, TX4, 6), (RX5, TX5, 9), (RX6, TX6, 20)]
/-! nest links of the landed class (read off the tables), and the words of a contract over a world -/
def zNF : List (String × Nat × String × String × String × String) := [("UpAllRound", 67, "UpAllRound$Stair", "steps", "I", "UpAllRound"), ("UpAllRound", 78, "UpAllRound$Stair", "rises", "[I", "UpAllRound"), ("UpAllRound", 81, "UpAllRound$Stair", "none", "I", "UpAllRound"), ("UpAllRound", 158, "UpAllRound$Stair", "minute", "I", "UpAllRound"), ("UpAllRound", 64, "UpAllRound$Stair", "climbers", "I", "UpAllRound"), ("UpAllRound", 94, "UpAllRound$Stair", "kinds", "[I", "UpAllRound"), ("UpAllRound", 97, "UpAllRound$Stair", "numbers", "[I", "UpAllRound"), ("UpAllRound", 100, "UpAllRound$Stair", "places", "[I", "UpAllRound"), ("UpAllRound", 103, "UpAllRound$Stair", "heights", "[I", "UpAllRound"), ("UpAllRound", 171, "UpAllRound$Stair", "z", "I", "UpAllRound"), ("UpAllRound", 116, "UpAllRound$Stair", "tape", "[I", "UpAllRound"), ("UpAllRound", 113, "UpAllRound$Stair", "taped", "I", "UpAllRound"), ("UpAllRound", 257, "UpAllRound$Stair", "waiting", "[I", "UpAllRound"), ("UpAllRound", 254, "UpAllRound$Stair", "waits", "I", "UpAllRound"), ("UpAllRound", 134, "UpAllRound$Reader", "law", "LUpAllRound$Law;", "UpAllRound"), ("UpAllRound", 127, "UpAllRound$Reader", "place", "I", "UpAllRound"), ("UpAllRound", 228, "UpAllRound$Voices", "trace", "[I", "UpAllRound"), ("UpAllRound", 225, "UpAllRound$Voices", "traced", "I", "UpAllRound"), ("UpAllRound", 221, "UpAllRound$Voices", "parted", "Z", "UpAllRound"), ("UpAllRound", 205, "UpAllRound$Sheets", "numbers", "[[I", "UpAllRound"), ("UpAllRound", 234, "UpAllRound$Sheets", "bits", "[I", "UpAllRound"), ("UpAllRound", 207, "UpAllRound$Sheets", "sizes", "[I", "UpAllRound"), ("UpAllRound$Voices", 59, "UpAllRound", "KIND_ABOVE", "[I", "UpAllRound")]
def zNM : List (String × Nat × MethodName × String) := [("UpAllRound", 11, ⟨"UpAllRound$Stair", "<init>", "()V"⟩, "UpAllRound"), ("UpAllRound$Stair", 36, ⟨"UpAllRound$Law", "<init>", "()V"⟩, "UpAllRound"), ("UpAllRound", 24, ⟨"UpAllRound$Reader", "<init>", "()V"⟩, "UpAllRound"), ("UpAllRound$Reader", 11, ⟨"UpAllRound$Law", "<init>", "()V"⟩, "UpAllRound"), ("UpAllRound", 31, ⟨"UpAllRound$Voices", "<init>", "()V"⟩, "UpAllRound"), ("UpAllRound", 38, ⟨"UpAllRound$Sheets", "<init>", "()V"⟩, "UpAllRound"), ("UpAllRound", 70, ⟨"UpAllRound$Stair", "lay", "(I)V"⟩, "UpAllRound"), ("UpAllRound", 74, ⟨"UpAllRound$Stair", "hasStep", "(I)Z"⟩, "UpAllRound"), ("UpAllRound", 84, ⟨"UpAllRound$Stair", "climbersAt", "(I)I"⟩, "UpAllRound"), ("UpAllRound", 87, ⟨"UpAllRound$Stair", "takeOn", "(II)I"⟩, "UpAllRound"), ("UpAllRound", 91, ⟨"UpAllRound$Stair", "hasClimber", "(I)Z"⟩, "UpAllRound"), ("UpAllRound", 106, ⟨"UpAllRound$Stair", "goes", "(I)I"⟩, "UpAllRound"), ("UpAllRound$Stair", 86, ⟨"UpAllRound", "isMultiple", "(II)Z"⟩, "UpAllRound"), ("UpAllRound", 123, ⟨"UpAllRound$Reader", "reads", "([IILjava/lang/String;)Z"⟩, "UpAllRound"), ("UpAllRound$Reader", 47, ⟨"UpAllRound$Law", "clear", "()V"⟩, "UpAllRound"), ("UpAllRound$Reader", 61, ⟨"UpAllRound$Law", "add", "(I)V"⟩, "UpAllRound"), ("UpAllRound", 130, ⟨"UpAllRound$Stair", "lawOf", "(I)LUpAllRound$Law;"⟩, "UpAllRound"), ("UpAllRound", 138, ⟨"UpAllRound$Law", "copy", "(LUpAllRound$Law;)V"⟩, "UpAllRound"), ("UpAllRound", 144, ⟨"UpAllRound$Law", "stands", "()Z"⟩, "UpAllRound"), ("UpAllRound", 148, ⟨"UpAllRound$Law", "clear", "()V"⟩, "UpAllRound"), ("UpAllRound", 151, ⟨"UpAllRound$Stair", "countedOf", "(III)I"⟩, "UpAllRound"), ("UpAllRound$Stair", 75, ⟨"UpAllRound$Law", "stands", "()Z"⟩, "UpAllRound"), ("UpAllRound$Stair", 79, ⟨"UpAllRound$Law", "work", "(III)I"⟩, "UpAllRound"), ("UpAllRound$Stair", 83, ⟨"UpAllRound", "held", "(III)I"⟩, "UpAllRound"), ("UpAllRound", 155, ⟨"UpAllRound$Stair", "worthOf", "(III)I"⟩, "UpAllRound"), ("UpAllRound", 161, ⟨"UpAllRound$Stair", "pass", "()V"⟩, "UpAllRound"), ("UpAllRound", 164, ⟨"UpAllRound$Stair", "pairs", "()I"⟩, "UpAllRound"), ("UpAllRound", 168, ⟨"UpAllRound$Stair", "drift", "()V"⟩, "UpAllRound"), ("UpAllRound", 174, ⟨"UpAllRound$Stair", "copyWalk", "(LUpAllRound$Stair;)V"⟩, "UpAllRound"), ("UpAllRound$Stair", 134, ⟨"UpAllRound$Law", "copy", "(LUpAllRound$Law;)V"⟩, "UpAllRound"), ("UpAllRound", 178, ⟨"UpAllRound$Stair", "passFor", "(I)V"⟩, "UpAllRound"), ("UpAllRound", 184, ⟨"UpAllRound$Stair", "meetingBy", "(III)I"⟩, "UpAllRound"), ("UpAllRound", 187, ⟨"UpAllRound$Stair", "passUncounted", "()V"⟩, "UpAllRound"), ("UpAllRound", 190, ⟨"UpAllRound$Stair", "hasDispute", "()Z"⟩, "UpAllRound"), ("UpAllRound", 193, ⟨"UpAllRound$Stair", "allRises", "()I"⟩, "UpAllRound"), ("UpAllRound", 202, ⟨"UpAllRound$Sheets", "isMissing", "(I)Z"⟩, "UpAllRound"), ("UpAllRound", 210, ⟨"UpAllRound$Stair", "goesAs", "(I[II)Z"⟩, "UpAllRound"), ("UpAllRound", 217, ⟨"UpAllRound$Voices", "speak", "(IIIII)I"⟩, "UpAllRound"), ("UpAllRound$Voices", 52, ⟨"UpAllRound", "isOutside", "(III)Z"⟩, "UpAllRound"), ("UpAllRound", 231, ⟨"UpAllRound$Sheets", "lay", "(III)V"⟩, "UpAllRound"), ("UpAllRound", 237, ⟨"UpAllRound$Sheets", "holds", "(III)Z"⟩, "UpAllRound"), ("UpAllRound", 251, ⟨"UpAllRound$Stair", "copyAll", "(LUpAllRound$Stair;)V"⟩, "UpAllRound")]
def zNL : List Cond := zNF.map (fun q => .fieldLinkNest q.1 q.2.1 q.2.2.1 q.2.2.2.1 q.2.2.2.2.1 q.2.2.2.2.2) ++ zNM.map (fun q => .methodLinkNest q.1 q.2.1 q.2.2.1 q.2.2.2)
def zN (U : State) : Prop := ∀ w ∈ zNL, va_Nw w U
theorem zNL_shape {w : Cond} (h : w ∈ zNL) : (∃ a i b n d z, w = .fieldLinkNest a i b n d z) ∨ ∃ a i x z, w = .methodLinkNest a i x z := by
  rcases List.mem_append.mp h with h | h
  · obtain ⟨q, -, rfl⟩ := List.mem_map.mp h
    exact Or.inl ⟨_, _, _, _, _, _, rfl⟩
  · obtain ⟨q, -, rfl⟩ := List.mem_map.mp h
    exact Or.inr ⟨_, _, _, _, rfl⟩
theorem zN.warm {s U : State} (hW : s.WarmedH U.vm) (h : zN s) : zN U := by
  intro w hw
  rcases zNL_shape hw with ⟨a, i, b, n, d, z, rfl⟩ | ⟨a, i, x, z, rfl⟩
  · exact va_Nw.warmF hW (h _ hw)
  · exact va_Nw.warmM hW (h _ hw)
theorem zN.same {u U : State} (e : u.vm = U.vm) (h : zN u) : zN U := by
  intro w hw
  rcases zNL_shape hw with ⟨a, i, b, n, d, z, rfl⟩ | ⟨a, i, x, z, rfl⟩
  · exact va_Nw.same rfl e (h _ hw)
  · exact va_Nw.same rfl e (h _ hw)
/-- the two rows of numbers that are static: the kinds above, and the bodies -/
def zKA : Nat → Int32 := fun j => match j with
  | 0 => -1 | 1 => 0 | 2 => 0 | 3 => 0 | 4 => 1 | 5 => 2 | _ => 0
def zBO : Nat → Int32 := fun j => match j with
  | 0 => 10 | 1 => 11 | 2 => 12 | 3 => 13 | 4 => 20 | 5 => 0 | 6 => 0 | 7 => 21 | 8 => 0 | 9 => 30 | 10 => 0 | 11 => 0 | 12 => 0 | 13 => 0 | 14 => 40 | 15 => 0 | 16 => 50 | 17 => 0 | 18 => 51 | 19 => 0 | 20 => 0 | 21 => 60 | 22 => 0 | 23 => 0 | 24 => 70 | 25 => 71 | _ => 0
def zZ1 (C n : String) (N : Nat) (f : Nat → Int32) (A : Nat → Prop) (U : State) (H : Heap) : Prop := ∃ t : Nat, va_Z C n "[I" (.ref t) A U H ∧ va_T .int t N (fun j => .int (f j)) A U H
theorem zZ1.to {C n : String} {N : Nat} {f : Nat → Int32} {A B : Nat → Prop} {u U : State} {H H1 : Heap} (h : zZ1 C n N f A u H) (hvm : u.vm.Alike U.vm) (hq : ∀ a : Nat, a < H.size → ¬ A a → H1[a]? = H[a]?) (hB : ∀ q, B q → A q) : zZ1 C n N f B U H1 := by
  obtain ⟨t, h1, h2⟩ := h
  exact ⟨t, ((h1.moved hvm).kept hq).narrow hB, ((h2.moved hvm).kept hq).narrow hB⟩
def zZ (A : Nat → Prop) (U : State) (H : Heap) : Prop := zZ1 "UpAllRound" "KIND_ABOVE" 7 zKA A U H ∧ zZ1 "UpAllRound$Voices" "BODIES" 28 zBO A U H
theorem zZ.to {A B : Nat → Prop} {u U : State} {H H1 : Heap} (h : zZ A u H) (hvm : u.vm.Alike U.vm) (hq : ∀ a : Nat, a < H.size → ¬ A a → H1[a]? = H[a]?) (hB : ∀ q, B q → A q) : zZ B U H1 := ⟨h.1.to hvm hq hB, h.2.to hvm hq hB⟩
abbrev zTy : Type := List (ClassId × FieldType)
/-- where a method begins over the world W0 -/
def zB (D : va_G) (ty : zTy) (W0 : va_W) (sz : Nat) (U : State) : Prop := U.heap.size = sz ∧ va_P D vwCl W0 U.heap ∧ va_K D vwCl ty U ∧ va_D (fun _ => True) W0 ∧ zN U ∧ zZ (va_A W0 sz) U U.heap
/-- where it ends -/
def zE (D : va_G) (A : Nat → Prop) (w : va_W) (t : State) : Prop := va_P D vwCl w t.heap ∧ va_D A w
theorem zB.blind {D : va_G} {ty : zTy} {W0 : va_W} {sz : Nat} {av : List Value} : FrameBlind (va_Pc av (zB D ty W0 sz)) := by
  intro a U g mk q
  obtain ⟨q0, q1, qP, qK, qD, qN, qZ⟩ := q
  exact ⟨q0, q1, qP, va_K.moved (u := U) (U := U.calling g mk a) (Vm.Alike.refl U.vm) qK, qD, zN.same (u := U) (U := U.calling g mk a) rfl qN, qZ.to (Vm.Alike.refl U.vm) (fun _ _ _ => rfl) (fun _ h => h)⟩
def zMi (l : Launch) (y : MethodName) (ws : List Cond) (rm : Room) (D : va_G) (ty : zTy) (av : List Value) (W0 : va_W) (post : Int32 → va_W → Prop) : Prop := ∀ sz : Nat, Met l y ws rm (va_Pc av (zB D ty W0 sz)) (va_Qi post (zE D (va_A W0 sz)) (va_A W0 sz)) 0 0 (va_A W0 sz)
def zMv (l : Launch) (y : MethodName) (ws : List Cond) (rm : Room) (D : va_G) (ty : zTy) (av : List Value) (W0 : va_W) (post : va_W → Prop) : Prop := ∀ sz : Nat, Met l y ws rm (va_Pc av (zB D ty W0 sz)) (va_Qv post (zE D (va_A W0 sz)) (va_A W0 sz)) 0 0 (va_A W0 sz)
def zSi (l : Launch) (y : MethodName) (ws : List Cond) (rm : Room) (D : va_G) (ty : zTy) (av : List Value) (W0 : va_W) (post : Int32 → Prop) : Prop := ∀ sz : Nat, Met l y ws rm (va_Pc av (zB D ty W0 sz)) (vp_Si post) 0 0 (fun _ => False)
theorem z_fm {α : Type} {f : Nat → Option α} {w : List α} : ∀ {is : List Nat}, is.map f = w.map some → is.filterMap f = w := by
  intro is h
  have e : is.filterMap f = (is.map f).filterMap id := by rw [List.filterMap_map]; rfl
  rw [e, h, List.filterMap_map]
  simp
section ZC
variable {p : Program} {l : Launch} {e : Env} {R : Room} {s : State} {m : MethodId} {args : Array Value} {below : List Frame} {meth : Method} {c : Code} {H : Heap} {locs : List Loc} {cells slots : Nat} {Q : State → Prop}
variable {D : va_G} {ty : zTy} {A : Nat → Prop} {W0 wc wr : va_W} {pc : Nat} {ls : Array Slot} {rest st0 : List Value} {cc : ByteArray} {a : Array Value}
theorem zB.at (hK : va_K D vwCl ty s) (hN : zN s) (hZ : zZ A s s.heap) (hP : va_P D vwCl wc H) (hD : va_D A wc) (hS : va_S A s.heap H locs) (hA : ∀ q, s.heap.size ≤ q → A q) (isC : List Nat) (hC : isC.map (fun i => wc[i]?) = W0.map some) (hn : va_nd isC = true) : ∀ U : State, U.heap = H → s.WarmedH U.vm → zB D ty W0 H.size U := fun U hU hW =>
  ⟨by rw [hU], by rw [hU]; exact hP.sub isC (z_fm hC), va_K.moved hW.alike hK, (hD.sub isC hn hC).weaken (fun _ _ _ _ => trivial), hN.warm hW, by rw [hU]; exact hZ.to hW.alike hS.2.1 (va_free hD hS hA isC hC)⟩
theorem zpV {C : String} {b : Addr} {As : List Value} (hK : va_K D vwCl ty s) (hN : zN s) (hZ : zZ A s s.heap) (hP : va_P D vwCl wc H) (hD : va_D A wc) (hS : va_S A s.heap H locs) (hA : ∀ q, s.heap.size ≤ q → A q) (isC : List Nat) (hC : isC.map (fun i => wc[i]?) = W0.map some) (hn : va_nd isC = true) (q0 : Nat) {ci : Nat} {fs : List Value} {q : vw_C} (he : wc[q0]? = some (b, .inr (ci, fs))) (hc : vwCl[ci]? = some q) (hq : q.1 = C) : PreV s H C b (va_Pc (.ref b :: As) (zB D ty W0 H.size)) As :=
  ⟨zB.blind, by subst hq; exact va_recv hK hP hc he, fun U hU hW => ⟨rfl, zB.at hK hN hZ hP hD hS hA isC hC hn U hU hW⟩⟩
theorem zpS {As : List Value} (hK : va_K D vwCl ty s) (hN : zN s) (hZ : zZ A s s.heap) (hP : va_P D vwCl wc H) (hD : va_D A wc) (hS : va_S A s.heap H locs) (hA : ∀ q, s.heap.size ≤ q → A q) (isC : List Nat) (hC : isC.map (fun i => wc[i]?) = W0.map some) (hn : va_nd isC = true) : PreS s H (va_Pc As (zB D ty W0 H.size)) As :=
  ⟨zB.blind, fun U hU hW => ⟨rfl, zB.at hK hN hZ hP hD hS hA isC hC hn U hU hW⟩⟩
/-- a call that answers an int and changes its cells -/
theorem zci {post : Int32 → va_W → Prop} (hr : va_Run p l e R s m args below meth c H locs cells slots 0 0 (F0 m pc ls st0) rest (va_Qi post (zE D (va_A W0 H.size)) (va_A W0 H.size) a) (va_A W0 H.size)) (hP : va_P D vwCl wc H) (hD : va_D A wc) (hS : va_S A s.heap H locs) (hA : ∀ q, s.heap.size ≤ q → A q) (isC isR : List Nat) (hC : isC.map (fun i => wc[i]?) = W0.map some) (hR : isR.map (fun i => wc[i]?) = wr.map some) (hn : va_nd isR = true) (hdis : ∀ i ∈ isR, i ∉ isC)
    (kk : ∀ (r : Int32) (w : va_W) (H1 : Heap) (locs1 : List Loc), post r w → va_P D vwCl (wr ++ w) H1 → va_D A (wr ++ w) → va_S A s.heap H1 locs1 → W p l e R s m args below meth c H1 locs1 cells slots Q (F0 m (pc + 3) ls (.int r :: rest))) : W p l e R s m args below meth c H locs cells slots Q (F0 m pc ls st0) := by
  have hF := va_free (wc := W0) hD hS hA isC hC
  refine va_calli hr hS (fun q _ h => hF q h) hF (fun r u t H1 locs1 ht hvm hw hB hz1 hk1 hS1 => ?_)
  obtain ⟨hP1, hD1⟩ := hB
  rw [ht] at hP1
  obtain ⟨hPj, hDj⟩ := va_join hP hD isC isR hC hR hn hdis hk1 hF hP1 hD1
  exact kk r u H1 locs1 hw hPj hDj hS1
theorem zcv {post : va_W → Prop} (hr : va_Run p l e R s m args below meth c H locs cells slots 0 0 (F0 m pc ls st0) rest (va_Qv post (zE D (va_A W0 H.size)) (va_A W0 H.size) a) (va_A W0 H.size)) (hP : va_P D vwCl wc H) (hD : va_D A wc) (hS : va_S A s.heap H locs) (hA : ∀ q, s.heap.size ≤ q → A q) (isC isR : List Nat) (hC : isC.map (fun i => wc[i]?) = W0.map some) (hR : isR.map (fun i => wc[i]?) = wr.map some) (hn : va_nd isR = true) (hdis : ∀ i ∈ isR, i ∉ isC)
    (kk : ∀ (w : va_W) (H1 : Heap) (locs1 : List Loc), post w → va_P D vwCl (wr ++ w) H1 → va_D A (wr ++ w) → va_S A s.heap H1 locs1 → W p l e R s m args below meth c H1 locs1 cells slots Q (F0 m (pc + 3) ls rest)) : W p l e R s m args below meth c H locs cells slots Q (F0 m pc ls st0) := by
  have hF := va_free (wc := W0) hD hS hA isC hC
  refine va_callv hr hS (fun q _ h => hF q h) hF (fun u t H1 locs1 ht hvm hw hB hz1 hk1 hS1 => ?_)
  obtain ⟨hP1, hD1⟩ := hB
  rw [ht] at hP1
  obtain ⟨hPj, hDj⟩ := va_join hP hD isC isR hC hR hn hdis hk1 hF hP1 hD1
  exact kk u H1 locs1 hw hPj hDj hS1
theorem zcs {post : Int32 → Prop} (hr : va_Run p l e R s m args below meth c H locs cells slots 0 0 (F0 m pc ls st0) rest (vp_Si post a) (fun _ => False)) (kk : ∀ r : Int32, post r → W p l e R s m args below meth c H locs cells slots Q (F0 m (pc + 3) ls (.int r :: rest))) : W p l e R s m args below meth c H locs cells slots Q (F0 m pc ls st0) := vp_callSi hr.run kk
/-- the same with the answer as a term -/
theorem zcsE {v : Int32} (hr : va_Run p l e R s m args below meth c H locs cells slots 0 0 (F0 m pc ls st0) rest (vp_Si (fun r => r = v) a) (fun _ => False)) (kk : W p l e R s m args below meth c H locs cells slots Q (F0 m (pc + 3) ls (.int v :: rest))) : W p l e R s m args below meth c H locs cells slots Q (F0 m pc ls st0) := vp_callSi hr.run (fun r h => by subst h; exact kk)
/-- another term for the top of the stack -/
theorem zrw {x y : Int32} (h : x = y) (k : W p l e R s m args below meth c H locs cells slots Q (F0 m pc ls (.int y :: rest))) : W p l e R s m args below meth c H locs cells slots Q (F0 m pc ls (.int x :: rest)) := by rw [h]; exact k
theorem zald {ws : va_W} {b : Nat} {cA cB : ClassId} {tyB : FieldType} {n : Nat} {f : Nat → Int32} {t : Nat} (hx : p.tables.exec = Jvm.exec) (hb : c.code = cc) (hK : va_K D vwCl [(cA, .int), (cB, tyB)] s) (hP : va_P D vwCl ws H) (q0 : Nat) (ha : ws[q0]? = some (b, .inl (cA, n, .inl f))) (ht : t < n) (hn : n < 2147483648) (hdg : decode cc pc = .ok (.iaload, 1)) (kk : W p l e R s m args below meth c H locs cells slots Q (F0 m (pc + 1) ls (.int (f t) :: rest))) : W p l e R s m args below meth c H locs cells slots Q (F0 m pc ls (.int (nI t) :: .ref b :: rest)) := by
  refine va_iald hx hb hK hP q0 0 ha rfl (vp_in_nI ht hn) hdg ?_
  rw [nI_clamp (Nat.lt_trans ht hn)]
  exact kk
theorem zast {ws : va_W} {b : Nat} {cA cB : ClassId} {tyB : FieldType} {n : Nat} {f : Nat → Int32} {t : Nat} {x : Int32} (hx : p.tables.exec = Jvm.exec) (hb : c.code = cc) (hK : va_K D vwCl [(cA, .int), (cB, tyB)] s) (hP : va_P D vwCl ws H) (hD : va_D A ws) (hS : va_S A s.heap H locs) (q0 : Nat) (ha : ws[q0]? = some (b, .inl (cA, n, .inl f))) (ht : t < n) (hn : n < 2147483648) (hdg : decode cc pc = .ok (.iastore, 1)) (kk : ∀ (H1 : Heap) (locs1 : List Loc), va_P D vwCl (ws.set q0 (b, .inl (cA, n, .inl (upd f t x)))) H1 → va_D A (ws.set q0 (b, .inl (cA, n, .inl (upd f t x)))) → va_S A s.heap H1 locs1 → W p l e R s m args below meth c H1 locs1 cells slots Q (F0 m (pc + 1) ls rest)) : W p l e R s m args below meth c H locs cells slots Q (F0 m pc ls (.int x :: .int (nI t) :: .ref b :: rest)) := by
  refine va_iast hx hb hK hP hD hS q0 0 ha rfl (vp_in_nI ht hn) hdg ?_
  rw [nI_clamp (Nat.lt_trans ht hn)]
  exact kk
/-- the ends -/
abbrev zQi (D : va_G) (A : Nat → Prop) (post : Int32 → va_W → Prop) (below : List Frame) (args : Array Value) (s : State) : State → Prop := MQ below (va_Qi post (zE D A) A) args s 0 0 A
abbrev zQv (D : va_G) (A : Nat → Prop) (post : va_W → Prop) (below : List Frame) (args : Array Value) (s : State) : State → Prop := MQ below (va_Qv post (zE D A) A) args s 0 0 A
abbrev zQs (post : Int32 → Prop) (below : List Frame) (args : Array Value) (s : State) : State → Prop := MQ below (vp_Si post) args s 0 0 (fun _ => False)
theorem zreti {post : Int32 → va_W → Prop} {w : va_W} {v : Int32} {rt : FieldType} (hx : p.tables.exec = Jvm.exec) (hb : c.code = cc) (hr : meth.sig.returnType = some rt) (hlocks : meth.locks = false) (hP : va_P D vwCl w H) (hD : va_D A w) (hS : va_S A s.heap H locs) (hdg : decode cc pc = .ok (.ireturn, 1)) (hn : narrow rt (.int v) = .int v) (hp : post v w) : W p l e R s m args below meth c H locs 0 0 (zQi D A post below args s) (F0 m pc ls [.int v]) :=
  W.zret hx hb hr hn (fun t ht hW => ⟨⟨v, w, rfl, hp, by rw [ht]; exact hP, hD⟩, hS.F ht⟩) hS.2.2 hdg hlocks
theorem zretv {post : va_W → Prop} {w : va_W} (hx : p.tables.exec = Jvm.exec) (hb : c.code = cc) (hr : meth.sig.returnType = none) (hlocks : meth.locks = false) (hP : va_P D vwCl w H) (hD : va_D A w) (hS : va_S A s.heap H locs) (hdg : decode cc pc = .ok (.return_, 1)) (hp : post w) : W p l e R s m args below meth c H locs 0 0 (zQv D A post below args s) (F0 m pc ls []) :=
  W.vret hx hb hr (fun t ht hW => ⟨⟨w, rfl, hp, by rw [ht]; exact hP, hD⟩, hS.F ht⟩) hS.2.2 hdg hlocks
theorem zretsi {post : Int32 → Prop} {v : Int32} {rt : FieldType} (hx : p.tables.exec = Jvm.exec) (hb : c.code = cc) (hr : meth.sig.returnType = some rt) (hlocks : meth.locks = false) (hdg : decode cc pc = .ok (.ireturn, 1)) (hn : narrow rt (.int v) = .int v) (hp : post v) : W p l e R s m args below meth c s.heap [] 0 0 (zQs post below args s) (F0 m pc ls [.int v]) :=
  W.zret hx hb hr hn (fun t ht hW => ⟨v, rfl, hp, ht⟩) (fun _ h => by cases h) hdg hlocks
end ZC
/-- what a body has at its entry -/
abbrev zSt (p : Program) (s : State) (m : MethodId) (args : Array Value) (meth : Method) (c : Code) (cc : ByteArray) (maxL : Nat) (ret : Option FieldType) (own : String) (ws : List Cond) (D : va_G) (ty : zTy) (W0 : va_W) (A : Nat → Prop) (ls : Array Slot) (av : List Value) : Prop :=
  p.tables.exec = Jvm.exec ∧ c.code = cc ∧ c.maxLocals = maxL ∧ meth.sig.returnType = ret ∧ meth.locks = false ∧ s.vm.findClass own = some m.cls ∧ (∀ w ∈ ws, w.before args s = true) ∧ va_K D vwCl ty s ∧ zN s ∧ zZ A s s.heap ∧ va_P D vwCl W0 s.heap ∧ va_D A W0 ∧ (∀ q, s.heap.size ≤ q → A q) ∧ va_S A s.heap s.heap [] ∧ lv_has ls maxL (lv_args 0 av)
theorem zstart {l : Launch} {y : MethodName} {ws ws' : List Cond} {rm : Room} {D : va_G} {ty : zTy} {av : List Value} {W0 : va_W} {sz : Nat} {Qc : Array Value → State → Outcome → State → Prop} {free : Addr → Prop} {cc : ByteArray} {maxL : Nat} {ret : Option FieldType} (hy : plainFor y = true) (hw : ws = Cond.code y cc maxL ret :: ws') (hlen : (lg_sl av).length ≤ maxL)
    (body : ∀ (p : Program) (e : Env) (s : State) (m : MethodId) (args : Array Value) (below : List Frame) (meth : Method) (c : Code) (ls : Array Slot), s.heap.size = sz → zSt p s m args meth c cc maxL ret y.cls ws D ty W0 (va_A W0 sz) ls av → W p l e rm s m args below meth c s.heap [] 0 0 (MQ below Qc args s 0 0 free) (F0 m 0 ls [])) : Met l y ws rm (va_Pc av (zB D ty W0 sz)) Qc 0 0 free := by
  refine va_MetF (cc := cc) (maxL := maxL) (ret := ret) hy hw ?_
  intro p e s m args below meth c s₁ B hml hv
  obtain ⟨rfl, hsz, hP, hK, hD0, hN, hZ⟩ := hv
  have hown : s.vm.findClass y.cls = some m.cls := findClass_of_methodNamed B.named
  have hl := lv_entry av (n := maxL) hlen
  rw [lg_entry_eq]
  exact body p e s m _ below meth c _ hsz ⟨B.exec, B.bytes, hml, B.returns, B.notSynchronized, hown, atoms_spec (ws := ws) B.pre, hK, hN, hZ, hP, hD0.self (sz := sz), fun q h => Or.inr (by rw [← hsz]; exact h), va_S.rf, hl⟩
theorem zMi.start {l : Launch} {y : MethodName} {ws ws' : List Cond} {rm : Room} {D : va_G} {ty : zTy} {av : List Value} {W0 : va_W} {post : Int32 → va_W → Prop} {cc : ByteArray} {maxL : Nat} {rt : FieldType} (hy : plainFor y = true) (hw : ws = Cond.code y cc maxL (some rt) :: ws') (hlen : (lg_sl av).length ≤ maxL)
    (body : ∀ (p : Program) (e : Env) (s : State) (m : MethodId) (args : Array Value) (below : List Frame) (meth : Method) (c : Code) (ls : Array Slot) (A : Nat → Prop) (Q : State → Prop), zSt p s m args meth c cc maxL (some rt) y.cls ws D ty W0 A ls av → (∀ {w : va_W} {v : Int32} {H : Heap} {locs : List Loc} {pc : Nat} {ls : Array Slot}, va_P D vwCl w H → va_D A w → va_S A s.heap H locs → decode cc pc = .ok (.ireturn, 1) → narrow rt (.int v) = .int v → post v w → W p l e rm s m args below meth c H locs 0 0 Q (F0 m pc ls [.int v])) → W p l e rm s m args below meth c s.heap [] 0 0 Q (F0 m 0 ls [])) : zMi l y ws rm D ty av W0 post :=
  fun _ => zstart hy hw hlen (fun p e s m args below meth c ls _ h => body p e s m args below meth c ls _ _ h (fun hP hD hS hdg hn hp => zreti h.1 h.2.1 h.2.2.2.1 h.2.2.2.2.1 hP hD hS hdg hn hp))
theorem zMv.start {l : Launch} {y : MethodName} {ws ws' : List Cond} {rm : Room} {D : va_G} {ty : zTy} {av : List Value} {W0 : va_W} {post : va_W → Prop} {cc : ByteArray} {maxL : Nat} (hy : plainFor y = true) (hw : ws = Cond.code y cc maxL none :: ws') (hlen : (lg_sl av).length ≤ maxL)
    (body : ∀ (p : Program) (e : Env) (s : State) (m : MethodId) (args : Array Value) (below : List Frame) (meth : Method) (c : Code) (ls : Array Slot) (A : Nat → Prop) (Q : State → Prop), zSt p s m args meth c cc maxL none y.cls ws D ty W0 A ls av → (∀ {w : va_W} {H : Heap} {locs : List Loc} {pc : Nat} {ls : Array Slot}, va_P D vwCl w H → va_D A w → va_S A s.heap H locs → decode cc pc = .ok (.return_, 1) → post w → W p l e rm s m args below meth c H locs 0 0 Q (F0 m pc ls [])) → W p l e rm s m args below meth c s.heap [] 0 0 Q (F0 m 0 ls [])) : zMv l y ws rm D ty av W0 post :=
  fun _ => zstart hy hw hlen (fun p e s m args below meth c ls _ h => body p e s m args below meth c ls _ _ h (fun hP hD hS hdg hp => zretv h.1 h.2.1 h.2.2.2.1 h.2.2.2.2.1 hP hD hS hdg hp))
theorem zSi.start {l : Launch} {y : MethodName} {ws ws' : List Cond} {rm : Room} {D : va_G} {ty : zTy} {av : List Value} {W0 : va_W} {post : Int32 → Prop} {cc : ByteArray} {maxL : Nat} {rt : FieldType} (hy : plainFor y = true) (hw : ws = Cond.code y cc maxL (some rt) :: ws') (hlen : (lg_sl av).length ≤ maxL)
    (body : ∀ (p : Program) (e : Env) (s : State) (m : MethodId) (args : Array Value) (below : List Frame) (meth : Method) (c : Code) (ls : Array Slot) (A : Nat → Prop) (Q : State → Prop), zSt p s m args meth c cc maxL (some rt) y.cls ws D ty W0 A ls av → (∀ {v : Int32} {pc : Nat} {ls : Array Slot}, decode cc pc = .ok (.ireturn, 1) → narrow rt (.int v) = .int v → post v → W p l e rm s m args below meth c s.heap [] 0 0 Q (F0 m pc ls [.int v])) → W p l e rm s m args below meth c s.heap [] 0 0 Q (F0 m 0 ls [])) : zSi l y ws rm D ty av W0 post :=
  fun _ => zstart hy hw hlen (fun p e s m args below meth c ls _ h => body p e s m args below meth c ls _ _ h (fun hdg hn hp => zretsi h.1 h.2.1 h.2.2.2.1 h.2.2.2.2.1 hdg hn hp))
/-- a truth as an int -/
def bI (b : Prop) [Decidable b] : Int32 := if b then 1 else 0
theorem bI_t {b : Prop} [Decidable b] (h : b) : bI b = 1 := if_pos h
theorem bI_f {b : Prop} [Decidable b] (h : ¬ b) : bI b = 0 := if_neg h
theorem bI_0 {b : Prop} [Decidable b] : bI b = 0 ↔ ¬ b := by
  unfold bI; split <;> simp_all
theorem bI_n0 {b : Prop} [Decidable b] : ¬ bI b = 0 ↔ b := by
  rw [bI_0, Decidable.not_not]
theorem nar_bI {b : Prop} [Decidable b] : narrow .boolean (.int (bI b)) = .int (bI b) := by
  unfold bI; split <;> rfl
theorem bI_01 {b : Prop} [Decidable b] : bI b = 0 ∨ bI b = 1 := by
  unfold bI; split <;> simp


theorem zPx {D : va_G} {cl : List vw_C} {ws : va_W} {H : Heap} {i a n : Nat} {c : ClassId} {f g : Nat → Int32} (hP : va_P D cl ws H) (hi : ws[i]? = some (a, .inl (c, n, .inl f))) (h : ∀ j, j < n → f j = g j) : va_P D cl (ws.set i (a, .inl (c, n, .inl g))) H := by
  intro k q hk
  by_cases e : k = i
  · subst e
    have hl : k < ws.length := (List.getElem?_eq_some_iff.mp hi).1
    rw [List.getElem?_set_self hl] at hk
    cases hk
    have h1 : H[a]? = some (arrV c n (fun j => .int (f j))) := hP k _ hi
    show H[a]? = some (arrV c n (fun j => .int (g j)))
    rw [h1]
    unfold arrV
    have e2 : (Array.ofFn (n := n) fun j => Value.int (f j.val)) = Array.ofFn (n := n) fun j => Value.int (g j.val) := congrArg Array.ofFn (funext fun j => by rw [h j.val j.isLt])
    rw [e2]
  · rw [List.getElem?_set_ne (fun q => e q.symm)] at hk
    exact hP k q hk
theorem zDx {A : Nat → Prop} {ws : va_W} {i a n : Nat} {c : ClassId} {f g : Nat → Int32} (hD : va_D A ws) (hi : ws[i]? = some (a, .inl (c, n, .inl f))) : va_D A (ws.set i (a, .inl (c, n, .inl g))) := hD.set hi
/-- an int among the first n numbers -/
abbrev zin (k : Int32) (n : Nat) : Prop := 0 ≤ k.toInt ∧ k.toInt < (n : Int)
theorem zin_of {k : Int32} {n : Nat} (h : zin k n) (hn : n < 2147483648) : ∃ j : Nat, j < n ∧ k = nI j := vp_in_of (vp_in_iff.mpr h) hn
theorem zin_nI {j n : Nat} (hj : j < 2147483648) : zin (nI j) n ↔ j < n := by
  unfold zin
  rw [nI_toInt hj]
  omega
/-- an ERROR's answer -/
def zerr (k : Nat) : Int32 := -1000000000 - nI k
/-- held within -/
def zheld (v low high : Int32) : Int32 := if v < low then low else if high < v then high else v
def zsum (f : Nat → Int32) : Nat → Int32
  | 0 => 0
  | n + 1 => zsum f n + f n
theorem zsum_congr {f g : Nat → Int32} {n : Nat} (h : ∀ j, j < n → f j = g j) : zsum f n = zsum g n := by
  induction n with
  | zero => rfl
  | succ n ih =>
    show zsum f n + f n = zsum g n + g n
    rw [ih (fun j hj => h j (by omega)), h n (by omega)]
theorem i_lt (a b : Int32) : a < b ↔ a.toInt < b.toInt := Int32.lt_iff_toInt_lt
theorem i_le (a b : Int32) : a ≤ b ↔ a.toInt ≤ b.toInt := Int32.le_iff_toInt_le
theorem i_eq (a b : Int32) : a = b ↔ a.toInt = b.toInt := Int32.toInt_inj.symm
