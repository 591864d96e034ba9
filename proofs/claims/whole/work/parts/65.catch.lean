section CT
variable {p : Program} {l : Launch} {e : Env} {R : Room} {s : State} {m : MethodId} {args : Array Value} {below : List Frame} {meth : Method} {c : Code} {H : Heap} {locs : List Loc} {cells slots : Nat} {Q : State → Prop}
variable {mc ms : Nat} {free : Addr → Prop} {A0 A1 : Nat → Prop} {H0 : Heap} {a : Array Value} {pc : Nat} {ls : Array Slot} {st0 rest : List Value}
/-- a row that names a class, met before or not: the search notes the class and asks whether it takes the thrown one; the tables stay warm -/
theorem ct_row {S : State} {f : JFrame} {q : Addr} {ce : Cell} {k : ClassId} {x : ExceptionTableEntry} {t : List ExceptionTableEntry} (hW : s.WarmedH S.vm) (hcell : S.heap[q]? = some ce) (hv : ce.vm = .none) (hk : ∃ z, s.vm.classes[ce.cls]? = some z)
    (hx : covers x f.pc = true) (h0 : x.catchType ≠ 0) (hl : s.vm.ClassLinks e.platform f.method.cls x.catchType k) :
    ∃ V : Vm, s.WarmedH V ∧ ∀ (P : Handler → Pre) (K : CtlPost) (d : Bool) (acts : List Action), wp (findHandler.go f q (x :: t)) P K e d acts S ↔
      (if s.vm.assignable ce.cls k = true then P (.found x.handlerPc) d acts (S.setVm V) else wp (findHandler.go f q t) P K e d acts (S.setVm V)) := by
  obtain ⟨_, _, _, y, hd, _, _, _, _, hy, _, hopen⟩ := hl.here
  have hN : s.WarmedH (S.vm.noted f.method.cls x.catchType (.cls k)) := hW.noted hd hopen (State.rightAt_cls hl)
  refine ⟨_, hN, fun P K d acts => ?_⟩
  have hres := (resolveClass_links e.toSetting (hW.classLinks hl)).op (op := VmOp.resolveClass f.method.cls x.catchType) rfl
  obtain ⟨z, hz⟩ := hk
  obtain ⟨z1, hz1, -⟩ := hN.alike.2.2 _ _ hz
  obtain ⟨y1, hy1, -⟩ := hN.alike.2.2 _ _ hy
  have hno : ∀ i, ce.vm ≠ .statics i := fun i h => by rw [hv] at h; cases h
  have hin : (decide (x.startPc ≤ f.pc) && decide (f.pc < x.endPc)) = true := hx
  rw [← hN.alike.assignable ce.cls k]
  cases hfit : (S.vm.noted f.method.cls x.catchType (.cls k)).assignable ce.cls k <;> simp [findHandler.go, hin, h0, hres.1, hres.2, hcell, hno, hz1, hy1, hfit, VmOp.dirties, VmOp.acts]
/-- the search through the rows pre, which don't take it, to the row x, which does -/
theorem ct_search {f : JFrame} {q : Addr} {ce : Cell} {k : ClassId} {x : ExceptionTableEntry} {suf : List ExceptionTableEntry} (hv : ce.vm = .none) (hk : ∃ z, s.vm.classes[ce.cls]? = some z) (hx : covers x f.pc = true) (h0 : x.catchType ≠ 0)
    (hl : s.vm.ClassLinks e.platform f.method.cls x.catchType k) (hfit : s.vm.assignable ce.cls k = true) : ∀ (pre : List ExceptionTableEntry) (S : State), s.WarmedH S.vm → S.heap[q]? = some ce →
      (∀ z ∈ pre, covers z f.pc = false ∨ (z.catchType ≠ 0 ∧ ∃ i, s.vm.ClassLinks e.platform f.method.cls z.catchType i ∧ s.vm.assignable ce.cls i = false)) →
      ∃ V : Vm, s.WarmedH V ∧ ∀ (P : Handler → Pre) (K : CtlPost) (d : Bool) (acts : List Action), wp (findHandler.go f q (pre ++ x :: suf)) P K e d acts S ↔ P (.found x.handlerPc) d acts (S.setVm V)
  | [], S, hW, hcell, _ => by
    obtain ⟨V, hV, hq⟩ := ct_row (t := suf) hW hcell hv hk hx h0 hl
    exact ⟨V, hV, fun P K d acts => (hq P K d acts).trans (by rw [if_pos hfit])⟩
  | y :: ys, S, hW, hcell, hp => by
    have hp2 := fun z (hz : z ∈ ys) => hp z (List.mem_cons_of_mem _ hz)
    rcases Bool.eq_false_or_eq_true (covers y f.pc) with hy | hy
    · rcases hp y (List.mem_cons_self ..) with h | ⟨hy0, i, hli, hni⟩
      · rw [h] at hy
        cases hy
      · obtain ⟨V, hV, hq⟩ := ct_row (t := ys ++ x :: suf) hW hcell hv hk hy hy0 hli
        obtain ⟨V2, hV2, hq2⟩ := ct_search hv hk hx h0 hl hfit ys (S.setVm V) hV hcell hp2
        refine ⟨V2, hV2, fun P K d acts => ((hq P K d acts).trans ?_).trans (hq2 P K d acts)⟩
        rw [if_neg (by rw [hni]; decide)]
    · obtain ⟨V, hV, hq⟩ := ct_search hv hk hx h0 hl hfit ys S hW hcell hp2
      exact ⟨V, hV, fun P K d acts => (_root_.Jvm.W.findHandler_go_skip hy).trans (hq P K d acts)⟩
/-- caught by the row x of this method's table; the rows ahead don't take it -/
theorem vx_catch {own name : String} {E : String} {ce : Cell} {q : Addr} (hown : s.vm.findClass own = some m.cls) (pre : List ExceptionTableEntry) (x : ExceptionTableEntry) (suf : List ExceptionTableEntry) (hsplit : c.exceptionTable.toList = pre ++ x :: suf)
    (hpass : ∀ z ∈ pre, covers z pc = false ∨ (z.catchType ≠ 0 ∧ ∃ nm : String, (Cond.classLink own z.catchType nm).before args s = true ∧ va_Nc E nm s)) (hx : covers x pc = true) (h0 : x.catchType ≠ 0)
    (hlink : (Cond.classLink own x.catchType name).before args s = true) (hcast : (Cond.castable E name).before args s = true) (hcell : H[q]? = some ce) (hv : ce.vm = .none) (hcl : s.vm.findClass E = some ce.cls)
    (kk : W p l e R s m args below meth c H locs cells slots Q (F0 m x.handlerPc ls [.ref q])) : vx_W p l e R s m args below meth c H locs cells slots Q (F0 m pc ls rest) q := by
  intro T hT X
  have hpl : e.platform.magicAccessors = ({} : Platform).magicAccessors := by rw [X.admits.platform]
  obtain ⟨i1, i2, hi1, hi2, hfit⟩ := Cond.castable_spec hcast
  cases Option.some.inj (hi1.symm.trans hcl)
  obtain ⟨i3, hi3, hl⟩ := Cond.classLink_spec hown hlink e.platform hpl
  cases Option.some.inj (hi2.symm.trans hi3)
  have hk : ∃ z, s.vm.classes[ce.cls]? = some z := Vm.classAt_of_findClass hcl
  have hat : At T m c below := X.here
  obtain ⟨g0, hfr⟩ := X.frames_eq
  have hS : (T.setTop (F0 m pc ls rest)).pushFrame (.throwing q) = T.setFrames (.throwing q :: .java (F0 m pc ls rest) :: below) := by
    rw [State.pushFrame, State.frames_setTop _ hfr, State.setTop_of_frames _ hfr, State.setFrames_setFrames]
  obtain ⟨V, hV, hq⟩ := ct_search (f := F0 m pc ls rest) (q := q) (suf := suf) hv hk hx h0 hl hfit pre (T.setFrames (.throwing q :: .java (F0 m pc ls rest) :: below)) X.warmed (by rw [← hT] at hcell; exact hcell) (fun z hz => by
    rcases hpass z hz with h | ⟨hz0, nm, hz1, i4, i5, hi4, hi5, hz2⟩
    · exact Or.inl h
    · obtain ⟨i6, hi6, hz3⟩ := Cond.classLink_spec hown hz1 e.platform hpl
      cases Option.some.inj (hi4.symm.trans hcl)
      cases Option.some.inj (hi5.symm.trans hi6)
      exact Or.inr ⟨hz0, i5, hz3, hz2⟩)
  obtain ⟨t, a1, b1⟩ := kk (T.setVm V) hT (X.noted hV)
  refine ⟨t, ?_, b1⟩
  obtain ⟨hgo, hin⟩ := At.throwing (g := F0 m pc ls rest) hat q
  refine Steps.head hgo hin ?_
  rw [stepThread_throwing (frames_entered hat.top _), hS, hfr, List.tail_cons]
  have hone : (stepThrowing e (T.setFrames (.throwing q :: .java (F0 m pc ls rest) :: below)) q (.java (F0 m pc ls rest) :: below)).1 = (T.setVm V).setTop (F0 m x.handlerPc ls [.ref q]) := by
    have hfr2 : (T.setVm V).frames = .java g0 :: below := hfr
    rw [State.setTop_of_frames _ hfr2]
    simp only [stepThrowing, searchFrame, vmDo]
    generalize hr : Sem.go _ e false [] _ = res
    obtain ⟨as, rfl, -⟩ := Sem.eq_ok_of hr (a := Handler.found x.handlerPc) (s' := (T.setFrames (.throwing q :: .java (F0 m pc ls rest) :: below)).setVm V) (acts' := []) (by
      have hm : (T.setFrames (.throwing q :: .java (F0 m pc ls rest) :: below)).vm.method? (F0 m pc ls rest).method = some meth := X.method'
      simp [_root_.Jvm.W.findHandler_eq hm X.code, hsplit, hq])
    show ((T.setVm V).setFrames (.throwing q :: .java (F0 m pc ls rest) :: below)).setFrames _ = _
    rw [State.setFrames_setFrames]
  rw [hone]
  exact a1
end CT
