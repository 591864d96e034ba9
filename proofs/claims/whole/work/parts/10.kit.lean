/-! my kit: nest words, the worlds of class (wX) and reference (wM), rows of small steps -/
def nwL : List Cond := [.methodLinkNest RX4 40 yX2_init "TraderRights", .fieldLinkNest RX4 93 "TraderRights$Rights" "size" "I" "TraderRights", .methodLinkNest RX4 47 yX0_init "TraderRights", .fieldLinkNest RX4 136 "TraderRights$Mandates" "size" "I" "TraderRights", .methodLinkNest RX4 54 yX3_init "TraderRights", .fieldLinkNest RX4 144 "TraderRights$Suspensions" "size" "I" "TraderRights", .methodLinkNest RX4 61 yX1_init "TraderRights", .fieldLinkNest RX4 183 "TraderRights$Reader" "latest" "I" "TraderRights", .fieldLinkNest RX4 197 "TraderRights$Reader" "lettersRead" "I" "TraderRights", .methodLinkNest RX4 153 yX3_isOn "TraderRights", .methodLinkNest RX4 204 yX2_tradersWith "TraderRights", .methodLinkNest RX2 35 yX4_bit "TraderRights", .methodLinkNest RX4 217 yX0_giversTo "TraderRights", .methodLinkNest RX0 29 yX4_bit "TraderRights", .methodLinkNest RX4 180 yX1_read "TraderRights", .methodLinkNest RX1 25 yX4_checkValue "TraderRights", .methodLinkNest RX4 98 yX2_append "TraderRights", .methodLinkNest RX4 139 yX0_append "TraderRights", .methodLinkNest RX4 147 yX3_append "TraderRights", .methodLinkNest RX4 208 yX2_actsOf "TraderRights", .methodLinkNest RX2 39 yX4_holds "TraderRights", .methodLinkNest RX4 194 yX0_sizeOf "TraderRights"]
def nwB (w : Cond) : Bool := match w with
  | .fieldLinkNest _ _ _ _ _ _ => true
  | .methodLinkNest _ _ _ _ => true
  | _ => false
theorem nwL_all : ∀ w ∈ nwL, nwB w = true := by decide +kernel
theorem nw_tab {w : Cond} (h : nwB w = true) : w.onTables = true := by
  cases w <;> first | rfl | (exact absurd h (by simp [nwB]))
theorem nw_warm {w : Cond} (h : nwB w = true) {s U : State} (hW : s.WarmedH U.vm) (hz : va_Nw w s) : va_Nw w U := by
  cases w <;> first | exact va_Nw.warmF hW hz | exact va_Nw.warmM hW hz | (exact absurd h (by simp [nwB]))
def nW (U : State) : Prop := ∀ w ∈ nwL, va_Nw w U
theorem nW.warm {s U : State} (h : nW s) (hW : s.WarmedH U.vm) : nW U := fun w hw => nw_warm (nwL_all w hw) hW (h w hw)
theorem nW.same {s U : State} (h : nW s) (e : s.vm = U.vm) : nW U := fun w hw => va_Nw.same (nw_tab (nwL_all w hw)) e (h w hw)
theorem nW.use {s : State} {args : Array Value} (h : nW s) {w : Cond} (hw : w ∈ nwL) : w.before args s = true := va_Nw.use (nw_tab (nwL_all w hw)) (h w hw)
theorem nW.of {s : State} {args : Array Value} {Ts : List Cond} (hts : ∀ w ∈ Ts, w.before args s = true) (h : ∀ w ∈ nwL, w ∈ Ts) : nW s := fun w hw => va_Nw.of (nw_tab (nwL_all w hw)) (hts w (h w hw))
def uu {α : Type} (g : Nat → α) (k : Nat) (x : α) : Nat → α := fun j => bif Nat.beq j k then x else g j
theorem va_D.fst {A : Nat → Prop} {ws ws' : va_W} (h : ws.map Prod.fst = ws'.map Prod.fst) (hD : va_D A ws) : va_D A ws' := by
  have key : ∀ (i : Nat) (q : Nat × va_E), ws'[i]? = some q → ∃ q', ws[i]? = some q' ∧ q'.1 = q.1 := by
    intro i q hq
    have h1 : (ws'.map Prod.fst)[i]? = some q.1 := by rw [List.getElem?_map, hq]; rfl
    rw [← h, List.getElem?_map] at h1
    cases h2 : ws[i]? with
    | none => rw [h2] at h1; cases h1
    | some q' => rw [h2] at h1; exact ⟨q', rfl, Option.some.inj h1⟩
  refine ⟨fun i j p q hp hq e => ?_, fun k q hq => ?_⟩
  · obtain ⟨p', a1, a2⟩ := key i p hp
    obtain ⟨q', b1, b2⟩ := key j q hq
    exact hD.1 i j p' q' a1 b1 (by rw [a2, b2, e])
  · obtain ⟨q', b1, b2⟩ := key k q hq
    rw [← b2]
    exact hD.2 k q' b1
def wX (ad : Nat → Nat) (cI cZ : ClassId) (z : Nat → Nat) (v : Nat → Int32) (f : Nat → Nat → Int32) : va_W := [(ad 0, .inr (4, [.int (nI (z 0)), .int (v 0), .ref (ad 1), .ref (ad 2), .ref (ad 3), .ref (ad 4), .ref (ad 5), .ref (ad 6), .ref (ad 12), .ref (ad 17), .ref (ad 21)])), (ad 1, .inl (cI, 12, .inl (f 0))), (ad 2, .inl (cI, 12, .inl (f 1))), (ad 3, .inl (cI, 12, .inl (f 2))), (ad 4, .inl (cI, 12, .inl (f 3))), (ad 5, .inl (cI, 12, .inl (f 4))), (ad 6, .inr (2, [.int (nI (z 1)), .ref (ad 7), .ref (ad 8), .ref (ad 9), .ref (ad 10), .ref (ad 11)])), (ad 7, .inl (cI, 60, .inl (f 5))), (ad 8, .inl (cI, 60, .inl (f 6))), (ad 9, .inl (cI, 60, .inl (f 7))), (ad 10, .inl (cI, 60, .inl (f 8))), (ad 11, .inl (cI, 60, .inl (f 9))), (ad 12, .inr (0, [.int (nI (z 2)), .ref (ad 13), .ref (ad 14), .ref (ad 15), .ref (ad 16)])), (ad 13, .inl (cI, 60, .inl (f 10))), (ad 14, .inl (cI, 60, .inl (f 11))), (ad 15, .inl (cZ, 60, .inl (f 12))), (ad 16, .inl (cI, 60, .inl (f 13))), (ad 17, .inr (3, [.int (nI (z 3)), .ref (ad 18), .ref (ad 19), .ref (ad 20)])), (ad 18, .inl (cI, 60, .inl (f 14))), (ad 19, .inl (cI, 60, .inl (f 15))), (ad 20, .inl (cZ, 60, .inl (f 16))), (ad 21, .inr (1, [.int (v 1), .int (nI (z 4)), .int (v 2)]))]
def kX (dC : Nat → ClassId) (dI : Nat → Nat → Nat) (ad : Nat → Nat) (cI cZ : ClassId) (z : Nat → Nat) (v : Nat → Int32) (f : Nat → Nat → Int32) (U : State) : Prop :=
  va_P (dC, dI) vwCl (wX ad cI cZ z v f) U.heap ∧ va_K (dC, dI) vwCl [(cI, .int), (cZ, .boolean)] U ∧ nW U
section KX
variable {dC : Nat → ClassId} {dI : Nat → Nat → Nat} {ad : Nat → Nat} {cI cZ : ClassId} {z : Nat → Nat} {v : Nat → Int32} {f : Nat → Nat → Int32}
theorem kX.at {s : State} {H : Heap} (hP : va_P (dC, dI) vwCl (wX ad cI cZ z v f) H) (hK : va_K (dC, dI) vwCl [(cI, .int), (cZ, .boolean)] s) (hN : nW s) : ∀ U : State, U.heap = H → s.WarmedH U.vm → kX dC dI ad cI cZ z v f U :=
  fun U hU hW => ⟨by rw [hU]; exact hP, va_K.moved hW.alike hK, hN.warm hW⟩
theorem kX.blind (av : List Value) : FrameBlind (va_Pc av (kX dC dI ad cI cZ z v f)) :=
  fun x U g mk q => ⟨q.1, q.2.1, va_K.moved (u := U) (U := U.calling g mk x) (Vm.Alike.refl U.vm) q.2.2.1, nW.same (U := U.calling g mk x) q.2.2.2 rfl⟩
theorem preX {s : State} {H : Heap} {C : String} {b ci q0 : Nat} {q : vw_C} {fs As : List Value} (hP : va_P (dC, dI) vwCl (wX ad cI cZ z v f) H) (hK : va_K (dC, dI) vwCl [(cI, .int), (cZ, .boolean)] s) (hN : nW s)
    (hc : vwCl[ci]? = some q) (hq : q.1 = C) (he : (wX ad cI cZ z v f)[q0]? = some (b, .inr (ci, fs))) : PreV s H C b (va_Pc (.ref b :: As) (kX dC dI ad cI cZ z v f)) As :=
  ⟨kX.blind _, by rw [← hq]; exact va_recv hK hP hc he, fun U hU hW => ⟨rfl, kX.at hP hK hN U hU hW⟩⟩
end KX
def wM (am : Nat → Nat) (cI cZ : ClassId) (th : Int32) (z : Nat → Nat) (v : Nat → Int32) (f : Nat → Nat → Int32) : va_W := [(am 0, .inr (5, [.int th, .int (nI (z 0)), .int (nI (z 1)), .int (nI (z 2)), .int (nI (z 3)), .int (v 1), .ref (am 1), .ref (am 2), .ref (am 3), .ref (am 4), .ref (am 5), .ref (am 6), .ref (am 7), .ref (am 8), .ref (am 9), .ref (am 10), .ref (am 11), .ref (am 12), .ref (am 13), .ref (am 14), .ref (am 15), .ref (am 16), .ref (am 17), .int (nI (z 4)), .int (v 2)])), (am 1, .inl (cI, 12, .inl (f 0))), (am 2, .inl (cI, 12, .inl (f 1))), (am 3, .inl (cI, 12, .inl (f 2))), (am 4, .inl (cI, 12, .inl (f 3))), (am 5, .inl (cI, 60, .inl (f 4))), (am 6, .inl (cI, 60, .inl (f 5))), (am 7, .inl (cI, 60, .inl (f 6))), (am 8, .inl (cI, 60, .inl (f 7))), (am 9, .inl (cI, 60, .inl (f 8))), (am 10, .inl (cI, 60, .inl (f 9))), (am 11, .inl (cI, 60, .inl (f 10))), (am 12, .inl (cZ, 60, .inl (f 11))), (am 13, .inl (cI, 60, .inl (f 12))), (am 14, .inl (cI, 60, .inl (f 13))), (am 15, .inl (cI, 60, .inl (f 14))), (am 16, .inl (cZ, 60, .inl (f 15))), (am 17, .inl (cI, 7, .inl (f 16)))]
def kM (dC : Nat → ClassId) (dI : Nat → Nat → Nat) (am : Nat → Nat) (cI cZ : ClassId) (th : Int32) (z : Nat → Nat) (v : Nat → Int32) (f : Nat → Nat → Int32) (U : State) : Prop :=
  va_P (dC, dI) vwCl (wM am cI cZ th z v f) U.heap ∧ va_K (dC, dI) vwCl [(cI, .int), (cZ, .boolean)] U ∧ nW U
section KM
variable {dC : Nat → ClassId} {dI : Nat → Nat → Nat} {am : Nat → Nat} {cI cZ : ClassId} {th : Int32} {z : Nat → Nat} {v : Nat → Int32} {f : Nat → Nat → Int32}
theorem kM.at {s : State} {H : Heap} (hP : va_P (dC, dI) vwCl (wM am cI cZ th z v f) H) (hK : va_K (dC, dI) vwCl [(cI, .int), (cZ, .boolean)] s) (hN : nW s) : ∀ U : State, U.heap = H → s.WarmedH U.vm → kM dC dI am cI cZ th z v f U :=
  fun U hU hW => ⟨by rw [hU]; exact hP, va_K.moved hW.alike hK, hN.warm hW⟩
theorem kM.blind (av : List Value) : FrameBlind (va_Pc av (kM dC dI am cI cZ th z v f)) :=
  fun x U g mk q => ⟨q.1, q.2.1, va_K.moved (u := U) (U := U.calling g mk x) (Vm.Alike.refl U.vm) q.2.2.1, nW.same (U := U.calling g mk x) q.2.2.2 rfl⟩
theorem preM {s : State} {H : Heap} {C : String} {b ci q0 : Nat} {q : vw_C} {fs As : List Value} (hP : va_P (dC, dI) vwCl (wM am cI cZ th z v f) H) (hK : va_K (dC, dI) vwCl [(cI, .int), (cZ, .boolean)] s) (hN : nW s)
    (hc : vwCl[ci]? = some q) (hq : q.1 = C) (he : (wM am cI cZ th z v f)[q0]? = some (b, .inr (ci, fs))) : PreV s H C b (va_Pc (.ref b :: As) (kM dC dI am cI cZ th z v f)) As :=
  ⟨kM.blind _, by rw [← hq]; exact va_recv hK hP hc he, fun U hU hW => ⟨rfl, kM.at hP hK hN U hU hW⟩⟩
end KM
theorem preT {s : State} {H : Heap} {As : List Value} : PreS s H (va_Pc As (fun _ => True)) As := ⟨fun _ _ _ _ q => q, fun _ _ _ => ⟨rfl, trivial⟩⟩
theorem xi_inc (k : Nat) : nI k + Int32.ofInt 1 = nI (k + 1) := by rw [nI_succ]; rfl
theorem xi_add1 (x : Int32) : x + Int32.ofInt 1 = x + 1 := rfl
theorem xi_sub1 (x : Int32) : x + Int32.ofInt (-1) = x - 1 := by
  rw [Int32.sub_eq_add_neg]; rfl
section XR
variable {p : Program} {l : Launch} {e : Env} {R : Room} {s : State} {m : MethodId} {args : Array Value} {below : List Frame} {meth : Method} {c : Code} {H : Heap} {locs : List Loc} {cells slots : Nat} {Q : State → Prop}
variable {cc : ByteArray} {pc a : Nat} {ls : Array Slot} {rest : List Value} {D : va_G} {cl : List vw_C} {tys : List (ClassId × FieldType)} {ws : va_W} {A : Nat → Prop} {H0 : Heap}
theorem xe_top {x y : Int32} (e1 : x = y) (k : W p l e R s m args below meth c H locs cells slots Q (F0 m pc ls (.int y :: rest))) : W p l e R s m args below meth c H locs cells slots Q (F0 m pc ls (.int x :: rest)) := e1 ▸ k
theorem xa_ild (hexec : p.tables.exec = Jvm.exec) (hb : c.code = cc) (hK : va_K D cl tys s) (hP : va_P D cl ws H) (q0 t0 : Nat) {cA : ClassId} {n : Nat} {f : Nat → Int32} (ha : ws[q0]? = some (a, .inl (cA, n, .inl f))) (ht : tys[t0]? = some (cA, .int)) {k : Nat} (hk : k < n) (hn : n < 2 ^ 31) (hdg : decode cc pc = .ok (.iaload, 1))
    (kk : W p l e R s m args below meth c H locs cells slots Q (F0 m (pc + 1) ls (.int (f k) :: rest))) : W p l e R s m args below meth c H locs cells slots Q (F0 m pc ls (.int (nI k) :: .ref a :: rest)) :=
  va_iald hexec hb hK hP q0 t0 ha ht (vp_in_nI hk hn) hdg (by rw [nI_clamp (Nat.lt_trans hk hn)]; exact kk)
theorem xa_zld (hexec : p.tables.exec = Jvm.exec) (hb : c.code = cc) (hK : va_K D cl tys s) (hP : va_P D cl ws H) (q0 t0 : Nat) {cA : ClassId} {n : Nat} {f : Nat → Int32} (ha : ws[q0]? = some (a, .inl (cA, n, .inl f))) (ht : tys[t0]? = some (cA, .boolean)) {k : Nat} (hk : k < n) (hn : n < 2 ^ 31) (hdg : decode cc pc = .ok (.baload, 1))
    (kk : W p l e R s m args below meth c H locs cells slots Q (F0 m (pc + 1) ls (.int (f k) :: rest))) : W p l e R s m args below meth c H locs cells slots Q (F0 m pc ls (.int (nI k) :: .ref a :: rest)) :=
  va_zald hexec hb hK hP q0 t0 ha ht (vp_in_nI hk hn) hdg (by rw [nI_clamp (Nat.lt_trans hk hn)]; exact kk)
theorem xa_ist (hexec : p.tables.exec = Jvm.exec) (hb : c.code = cc) (hK : va_K D cl tys s) (hP : va_P D cl ws H) (hD : va_D A ws) (hS : va_S A H0 H locs) (q0 t0 : Nat) {cA : ClassId} {n : Nat} {f : Nat → Int32} (ha : ws[q0]? = some (a, .inl (cA, n, .inl f))) (ht : tys[t0]? = some (cA, .int)) {k : Nat} {x : Int32} (hk : k < n) (hn : n < 2 ^ 31) (hdg : decode cc pc = .ok (.iastore, 1))
    (kk : ∀ (H1 : Heap) (locs1 : List Loc), va_P D cl (ws.set q0 (a, .inl (cA, n, .inl (upd f k x)))) H1 → va_D A (ws.set q0 (a, .inl (cA, n, .inl (upd f k x)))) → va_S A H0 H1 locs1 → W p l e R s m args below meth c H1 locs1 cells slots Q (F0 m (pc + 1) ls rest)) : W p l e R s m args below meth c H locs cells slots Q (F0 m pc ls (.int x :: .int (nI k) :: .ref a :: rest)) :=
  va_iast hexec hb hK hP hD hS q0 t0 ha ht (vp_in_nI hk hn) hdg (by rw [nI_clamp (Nat.lt_trans hk hn)]; exact kk)
theorem xa_zst (hexec : p.tables.exec = Jvm.exec) (hb : c.code = cc) (hK : va_K D cl tys s) (hP : va_P D cl ws H) (hD : va_D A ws) (hS : va_S A H0 H locs) (q0 t0 : Nat) {cA : ClassId} {n : Nat} {f : Nat → Int32} (ha : ws[q0]? = some (a, .inl (cA, n, .inl f))) (ht : tys[t0]? = some (cA, .boolean)) {k : Nat} {x : Int32} (hx : vp_nar .boolean x = x) (hk : k < n) (hn : n < 2 ^ 31) (hdg : decode cc pc = .ok (.bastore, 1))
    (kk : ∀ (H1 : Heap) (locs1 : List Loc), va_P D cl (ws.set q0 (a, .inl (cA, n, .inl (upd f k x)))) H1 → va_D A (ws.set q0 (a, .inl (cA, n, .inl (upd f k x)))) → va_S A H0 H1 locs1 → W p l e R s m args below meth c H1 locs1 cells slots Q (F0 m (pc + 1) ls rest)) : W p l e R s m args below meth c H locs cells slots Q (F0 m pc ls (.int x :: .int (nI k) :: .ref a :: rest)) :=
  va_zast hexec hb hK hP hD hS q0 t0 ha ht (vp_in_nI hk hn) hdg (by rw [nI_clamp (Nat.lt_trans hk hn), hx]; exact kk)
end XR
/-- a number that a boolean may be -/
def zB (x : Int32) : Prop := narrow .boolean (.int x) = .int x
theorem zB_0 : zB 0 := rfl
theorem zB_1 : zB 1 := rfl
theorem zB_nar {x : Int32} (h : zB x) : vp_nar .boolean x = x := by
  have h2 : narrow .boolean (.int x) = .int x := h
  unfold vp_nar
  rw [h2]
