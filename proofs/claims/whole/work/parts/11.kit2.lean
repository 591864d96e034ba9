/-- the class of an exception by its number here -/
def exN : Nat → String
  | 1 => "java/lang/IllegalArgumentException"
  | 2 => "java/lang/IllegalStateException"
  | _ => "java/lang/IndexOutOfBoundsException"
def badL : List Cond := [.castable "java/lang/IllegalArgumentException" "java/lang/IllegalArgumentException", .castable "java/lang/IllegalStateException" "java/lang/IllegalStateException", .castable "java/lang/IndexOutOfBoundsException" "java/lang/IndexOutOfBoundsException", .declares (Bundle.initS "java/lang/RuntimeException"), .declares (Bundle.initS "java/lang/Exception"), .declares (Bundle.initS "java/lang/Throwable")]
def badB (w : Cond) : Bool := match w with
  | .castable _ _ => true
  | .declares _ => true
  | _ => false
theorem badL_all : ∀ w ∈ badL, badB w = true := by decide +kernel
theorem bad_tab {w : Cond} (h : badB w = true) : w.onTables = true := by
  cases w <;> first | rfl | (exact absurd h (by simp [badB]))
theorem bad_warm {w : Cond} (h : badB w = true) {s U : State} (hW : s.WarmedH U.vm) (hz : va_Nw w s) : va_Nw w U := by
  cases w <;> first | exact va_Nw.warmC hW hz | exact va_Nw.warmD hW hz | (exact absurd h (by simp [badB]))
def strL : List (Nat × String) := [(68, "there are 12 traders"), (85, "no such trader, act or place"), (91, "no such days"), (96, "there are 60 rights"), (113, "no such two traders"), (134, "no such day"), (137, "there are 60 mandates"), (142, "no such trader or day"), (145, "there are 60 suspensions"), (167, "no such number"), (171, "no such letter"), (186, "no such trader or what")]
/-- what a throw leans on: Throwable's two statics, the texts -/
def tW (A : Nat → Prop) (U : State) : Prop := vx_Zq Bundle.tN "UNASSIGNED_STACK" Bundle.steD A U U.heap ∧ vx_Zq Bundle.tN "SUPPRESSED_SENTINEL" Bundle.listD A U U.heap ∧ (∀ q ∈ strL, ∃ sa, vk_R RX4 q.1 q.2 sa U) ∧ ∀ w ∈ badL, va_Nw w U
theorem tW.narrow {A B : Nat → Prop} {U : State} (h : tW A U) (hAB : ∀ q, B q → A q) : tW B U := ⟨h.1.narrow hAB, h.2.1.narrow hAB, h.2.2.1, h.2.2.2⟩
theorem tW.at {A : Nat → Prop} {s U : State} (h : tW A s) (hW : s.WarmedH U.vm) (hk : ∀ a : Nat, a < s.heap.size → ¬ A a → U.heap[a]? = s.heap[a]?) : tW A U :=
  ⟨(h.1.kept hk).moved hW.alike, (h.2.1.kept hk).moved hW.alike, fun q hq => (h.2.2.1 q hq).elim fun sa hs => ⟨sa, vk_R.warm hW hs⟩, fun w hw => bad_warm (badL_all w hw) hW (h.2.2.2 w hw)⟩
theorem tW.same {A : Nat → Prop} {s U : State} (h : tW A s) (e : U.vm = s.vm) (hh : U.heap = s.heap) : tW A U := by
  refine ⟨?_, ?_, fun q hq => (h.2.2.1 q hq).elim fun sa hs => ⟨sa, vk_R.same e hs⟩, fun w hw => va_Nw.same (bad_tab (badL_all w hw)) e.symm (h.2.2.2 w hw)⟩
  · rw [hh]; exact h.1.moved (by rw [e]; exact Vm.Alike.refl _)
  · rw [hh]; exact h.2.1.moved (by rw [e]; exact Vm.Alike.refl _)
theorem preXw {dC : Nat → ClassId} {dI : Nat → Nat → Nat} {ad : Nat → Nat} {cI cZ : ClassId} {z : Nat → Nat} {v : Nat → Int32} {f : Nat → Nat → Int32} {s : State} {H : Heap} {C : String} {b ci q0 : Nat} {q : vw_C} {fs As : List Value} {A : Nat → Prop} (hP : va_P (dC, dI) vwCl (wX ad cI cZ z v f) H) (hK : va_K (dC, dI) vwCl [(cI, .int), (cZ, .boolean)] s) (hN : nW s) (hD : va_D A (wX ad cI cZ z v f))
    (hc : vwCl[ci]? = some q) (hq : q.1 = C) (he : (wX ad cI cZ z v f)[q0]? = some (b, .inr (ci, fs))) : PreV s H C b (va_Pc (.ref b :: As) (fun U => U.heap.size = H.size ∧ va_D (fun _ => True) (wX ad cI cZ z v f) ∧ kX dC dI ad cI cZ z v f U)) As :=
  ⟨fun x U g mk h => ⟨h.1, h.2.1, h.2.2.1, ((kX.blind _ : FrameBlind (va_Pc (.ref b :: As) (kX dC dI ad cI cZ z v f))) x U g mk ⟨h.1, h.2.2.2⟩).2⟩, by rw [← hq]; exact va_recv hK hP hc he, fun U hU hW => ⟨rfl, by rw [hU], hD.weaken (fun _ _ _ _ => trivial), kX.at hP hK hN U hU hW⟩⟩
theorem preMw {dC : Nat → ClassId} {dI : Nat → Nat → Nat} {am : Nat → Nat} {cI cZ : ClassId} {th : Int32} {z : Nat → Nat} {v : Nat → Int32} {f : Nat → Nat → Int32} {s : State} {H : Heap} {C : String} {b ci q0 : Nat} {q : vw_C} {fs As : List Value} {A : Nat → Prop} (hP : va_P (dC, dI) vwCl (wM am cI cZ th z v f) H) (hK : va_K (dC, dI) vwCl [(cI, .int), (cZ, .boolean)] s) (hN : nW s) (hD : va_D A (wM am cI cZ th z v f))
    (hc : vwCl[ci]? = some q) (hq : q.1 = C) (he : (wM am cI cZ th z v f)[q0]? = some (b, .inr (ci, fs))) : PreV s H C b (va_Pc (.ref b :: As) (fun U => U.heap.size = H.size ∧ va_D (fun _ => True) (wM am cI cZ th z v f) ∧ kM dC dI am cI cZ th z v f U)) As :=
  ⟨fun x U g mk h => ⟨h.1, h.2.1, h.2.2.1, ((kM.blind _ : FrameBlind (va_Pc (.ref b :: As) (kM dC dI am cI cZ th z v f))) x U g mk ⟨h.1, h.2.2.2⟩).2⟩, by rw [← hq]; exact va_recv hK hP hc he, fun U hU hW => ⟨rfl, by rw [hU], hD.weaken (fun _ _ _ _ => trivial), kM.at hP hK hN U hU hW⟩⟩
theorem preXt {dC : Nat → ClassId} {dI : Nat → Nat → Nat} {ad : Nat → Nat} {cI cZ : ClassId} {z : Nat → Nat} {v : Nat → Int32} {f : Nat → Nat → Int32} {s : State} {H : Heap} {locs : List Loc} {C : String} {b ci q0 : Nat} {q : vw_C} {fs As : List Value} {A : Nat → Prop} (hP : va_P (dC, dI) vwCl (wX ad cI cZ z v f) H) (hK : va_K (dC, dI) vwCl [(cI, .int), (cZ, .boolean)] s) (hN : nW s) (hD : va_D A (wX ad cI cZ z v f)) (hT : tW A s) (hS : va_S A s.heap H locs) (hF : ∀ x, va_A (wX ad cI cZ z v f) H.size x → A x)
    (hc : vwCl[ci]? = some q) (hq : q.1 = C) (he : (wX ad cI cZ z v f)[q0]? = some (b, .inr (ci, fs))) : PreV s H C b (va_Pc (.ref b :: As) (fun U => U.heap.size = H.size ∧ va_D (fun _ => True) (wX ad cI cZ z v f) ∧ kX dC dI ad cI cZ z v f U ∧ tW (va_A (wX ad cI cZ z v f) H.size) U)) As :=
  ⟨fun x U g mk h => ⟨h.1, h.2.1, h.2.2.1, ((kX.blind _ : FrameBlind (va_Pc (.ref b :: As) (kX dC dI ad cI cZ z v f))) x U g mk ⟨h.1, h.2.2.2.1⟩).2, h.2.2.2.2.same rfl rfl⟩, by rw [← hq]; exact va_recv hK hP hc he, fun U hU hW => ⟨rfl, by rw [hU], hD.weaken (fun _ _ _ _ => trivial), kX.at hP hK hN U hU hW, (hT.at hW (fun a h1 h2 => by rw [hU]; exact hS.2.1 a h1 h2)).narrow hF⟩⟩
theorem ot70 : ∀ w ∈ Cond.classLink RX4 66 "java/lang/IllegalStateException" :: Cond.initialized "java/lang/IllegalStateException" :: vx_atS RX4 70 "java/lang/IllegalStateException" ["java/lang/RuntimeException", "java/lang/Exception"], vx_ot w = true := by decide +kernel
theorem at_bad70 : ∀ w ∈ (vx_atS RX4 70 "java/lang/IllegalStateException" ["java/lang/RuntimeException", "java/lang/Exception"]).filter (fun w => !goodWord w), w ∈ badL := by decide +kernel
theorem ot87 : ∀ w ∈ Cond.classLink RX4 83 "java/lang/IllegalArgumentException" :: Cond.initialized "java/lang/IllegalArgumentException" :: vx_atS RX4 87 "java/lang/IllegalArgumentException" ["java/lang/RuntimeException", "java/lang/Exception"], vx_ot w = true := by decide +kernel
theorem at_bad87 : ∀ w ∈ (vx_atS RX4 87 "java/lang/IllegalArgumentException" ["java/lang/RuntimeException", "java/lang/Exception"]).filter (fun w => !goodWord w), w ∈ badL := by decide +kernel
theorem ot173 : ∀ w ∈ Cond.classLink RX4 169 "java/lang/IndexOutOfBoundsException" :: Cond.initialized "java/lang/IndexOutOfBoundsException" :: vx_atS RX4 173 "java/lang/IndexOutOfBoundsException" ["java/lang/RuntimeException", "java/lang/Exception"], vx_ot w = true := by decide +kernel
theorem at_bad173 : ∀ w ∈ (vx_atS RX4 173 "java/lang/IndexOutOfBoundsException" ["java/lang/RuntimeException", "java/lang/Exception"]).filter (fun w => !goodWord w), w ∈ badL := by decide +kernel
theorem sw_out {x : Int32} (h0 : ¬ x = 0) (h1 : ¬ x = 1) (h2 : ¬ x = 2) (h3 : ¬ x = 3) (h4 : ¬ x = 4) (h5 : ¬ x = 5) : x.toInt < 0 ∨ 5 < x.toInt := by
  have k : ∀ (n : Int32), ¬ x = n → ¬ x.toInt = n.toInt := fun n h e => h (Int32.toInt_inj.mp e)
  have g0 := k 0 h0
  have g1 := k 1 h1
  have g2 := k 2 h2
  have g3 := k 3 h3
  have g4 := k 4 h4
  have g5 := k 5 h5
  have e0 : (0 : Int32).toInt = 0 := rfl
  have e1 : (1 : Int32).toInt = 1 := rfl
  have e2 : (2 : Int32).toInt = 2 := rfl
  have e3 : (3 : Int32).toInt = 3 := rfl
  have e4 : (4 : Int32).toInt = 4 := rfl
  have e5 : (5 : Int32).toInt = 5 := rfl
  omega
