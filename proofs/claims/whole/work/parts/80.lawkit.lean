def wL (ad am : Nat → Nat) (cI cZ cJ : ClassId) (o : Nat) (zx : Nat → Nat) (vx : Nat → Int32) (fx : Nat → Nat → Int32) (th : Int32) (zm : Nat → Nat) (vm : Nat → Int32) (fm : Nat → Nat → Int32) (g : Nat → Int64) : va_W := wX ad cI cZ zx vx fx ++ (wM am cI cZ th zm vm fm ++ [(o, .inl (cJ, 1, .inr (.inl g)))])
section XS
variable {p : Program} {l : Launch} {e : Env} {R : Room} {s : State} {m : MethodId} {args : Array Value} {below : List Frame} {meth : Method} {c : Code} {H : Heap} {locs : List Loc} {cells slots : Nat} {Q : State → Prop} {cc : ByteArray} {pc b L : Nat} {xs : Nat → Int32} {ls : Array Slot} {rest : List Value} {A : Nat → Prop}
theorem xs_ld (hexec : p.tables.exec = Jvm.exec) (hb : c.code = cc) (hX : va_X b L xs s s.heap) (hbl : b < s.heap.size) (hbA : ¬ A b) (hS : va_S A s.heap H locs) {k : Nat} (hk : k < L) (hL : L < 2 ^ 31) (hdg : decode cc pc = .ok (.iaload, 1))
    (kk : W p l e R s m args below meth c H locs cells slots Q (F0 m (pc + 1) ls (.int (xs k) :: rest))) : W p l e R s m args below meth c H locs cells slots Q (F0 m pc ls (.int (nI k) :: .ref b :: rest)) :=
  va_sld hexec hb hX hbl hbA hS (vp_in_nI hk hL) hdg (by rw [nI_clamp (Nat.lt_trans hk hL)]; exact kk)
end XS
theorem preL {dC : Nat → ClassId} {dI : Nat → Nat → Nat} {ad : Nat → Nat} {cI cZ cJ : ClassId} {o : Nat} {z : Nat → Nat} {v : Nat → Int32} {f : Nat → Nat → Int32} {g : Nat → Int64} {s : State} {H : Heap} {locs : List Loc} {As : List Value} {A : Nat → Prop} (hP : va_P (dC, dI) vwCl (wXo ad cI cZ cJ o z v f g) H) (hK : va_K (dC, dI) vwCl (cL3 cI cZ cJ) s) (hN : nW s) (hD : va_D A (wXo ad cI cZ cJ o z v f g)) (hT : tW A s) (hC : cW s) (hS : va_S A s.heap H locs) (hF : ∀ x, va_A (wXo ad cI cZ cJ o z v f g) H.size x → A x) : PreS s H (va_Pc As (fun U => U.heap.size = H.size ∧ va_D (fun _ => True) (wXo ad cI cZ cJ o z v f g) ∧ va_P (dC, dI) vwCl (wXo ad cI cZ cJ o z v f g) U.heap ∧ va_K (dC, dI) vwCl (cL3 cI cZ cJ) U ∧ nW U ∧ tW (va_A (wXo ad cI cZ cJ o z v f g) H.size) U ∧ cW U)) As :=
  ⟨fun x U g mk h => ⟨h.1, h.2.1, h.2.2.1, h.2.2.2.1, va_K.moved (u := U) (U := U.calling g mk x) (Vm.Alike.refl U.vm) h.2.2.2.2.1, nW.same (U := U.calling g mk x) h.2.2.2.2.2.1 rfl, h.2.2.2.2.2.2.1.same rfl rfl, h.2.2.2.2.2.2.2.moved (U := U.calling g mk x) (Vm.Alike.refl U.vm)⟩,
   fun U hU hW => ⟨rfl, by rw [hU], hD.weaken (fun _ _ _ _ => trivial), by rw [hU]; exact hP, va_K.moved hW.alike hK, hN.warm hW, (hT.at hW (fun a h1 h2 => by rw [hU]; exact hS.2.1 a h1 h2)).narrow hF, hC.moved hW.alike⟩⟩
theorem lc_eq {x y : Int64} (h : x = y) : lg_cmp x y = 0 := by
  subst h
  simp [lg_cmp]
theorem hz_trader {z : Nat → Nat} {v : Nat → Int32} {f : Nat → Nat → Int32} {FX : Nat × Int32 × (Nat → Nat) × (Nat → Int32) × (Nat → Nat → Int32)} (h : FX.1 = 0 ∨ (FX.1 = 2 ∧ FX.2.2 = (z, v, f))) (hc : hc_trader FX.1 = 0) : FX.1 = 0 := by
  rcases h with h0 | ⟨h2, -⟩
  · exact h0
  · rw [h2] at hc; exact absurd hc (by decide)
theorem hz_right {z : Nat → Nat} {v : Nat → Int32} {f : Nat → Nat → Int32} {FX : Nat × Int32 × (Nat → Nat) × (Nat → Int32) × (Nat → Nat → Int32)} (h : FX.1 = 0 ∨ (FX.1 = 1 ∧ FX.2.2 = (z, v, f)) ∨ (FX.1 = 2 ∧ FX.2.2 = (z, v, f))) (hc : hc_right FX.1 = 0) : FX.1 = 0 := by
  rcases h with h0 | ⟨h1, -⟩ | ⟨h2, -⟩
  · exact h0
  · rw [h1] at hc; exact absurd hc (by decide)
  · rw [h2] at hc; exact absurd hc (by decide)
theorem hz_group {z : Nat → Nat} {v : Nat → Int32} {f : Nat → Nat → Int32} {FX : Nat × Int32 × (Nat → Nat) × (Nat → Int32) × (Nat → Nat → Int32)} (h : FX.1 = 0 ∨ (FX.1 = 1 ∧ FX.2.2 = (z, v, f))) (hc : hc_group FX.1 = 0) : FX.1 = 0 := by
  rcases h with h0 | ⟨h1, -⟩
  · exact h0
  · rw [h1] at hc; exact absurd hc (by decide)
theorem hz_deputy {z : Nat → Nat} {v : Nat → Int32} {f : Nat → Nat → Int32} {FX : Nat × Int32 × (Nat → Nat) × (Nat → Int32) × (Nat → Nat → Int32)} (h : FX.1 = 0 ∨ (FX.1 = 1 ∧ FX.2.2 = (z, v, f))) (hc : hc_deputy FX.1 = 0) : FX.1 = 0 := by
  rcases h with h0 | ⟨h1, -⟩
  · exact h0
  · rw [h1] at hc; exact absurd hc (by decide)
theorem hz_mandate {z : Nat → Nat} {v : Nat → Int32} {f : Nat → Nat → Int32} {FX : Nat × Int32 × (Nat → Nat) × (Nat → Int32) × (Nat → Nat → Int32)} (h : FX.1 = 0 ∨ (FX.1 = 1 ∧ FX.2.2 = (z, v, f)) ∨ (FX.1 = 2 ∧ FX.2.2 = (z, v, f))) (hc : hc_mandate FX.1 = 0) : FX.1 = 0 := by
  rcases h with h0 | ⟨h1, -⟩ | ⟨h2, -⟩
  · exact h0
  · rw [h1] at hc; exact absurd hc (by decide)
  · rw [h2] at hc; exact absurd hc (by decide)
theorem hz_suspend {z : Nat → Nat} {v : Nat → Int32} {f : Nat → Nat → Int32} {FX : Nat × Int32 × (Nat → Nat) × (Nat → Int32) × (Nat → Nat → Int32)} (h : FX.1 = 0 ∨ (FX.1 = 1 ∧ FX.2.2 = (z, v, f)) ∨ (FX.1 = 2 ∧ FX.2.2 = (z, v, f))) (hc : hc_suspend FX.1 = 0) : FX.1 = 0 := by
  rcases h with h0 | ⟨h1, -⟩ | ⟨h2, -⟩
  · exact h0
  · rw [h1] at hc; exact absurd hc (by decide)
  · rw [h2] at hc; exact absurd hc (by decide)
theorem hz_letter {z : Nat → Nat} {v : Nat → Int32} {f : Nat → Nat → Int32} {FX : Nat × Int32 × (Nat → Nat) × (Nat → Int32) × (Nat → Nat → Int32)} (h : FX.1 = 0 ∨ (FX.1 = 1 ∧ FX.2.2 = (z, v, f)) ∨ (FX.1 = 3 ∧ FX.2.2 = (z, v, f))) (hc : hc_letter FX.1 = 0) : FX.1 = 0 := by
  rcases h with h0 | ⟨h1, -⟩ | ⟨h3, -⟩
  · exact h0
  · rw [h1] at hc; exact absurd hc (by decide)
  · rw [h3] at hc; exact absurd hc (by decide)
theorem hz_look {z : Nat → Nat} {v : Nat → Int32} {f : Nat → Nat → Int32} {FX : Nat × Int32 × (Nat → Nat) × (Nat → Int32) × (Nat → Nat → Int32)} (h : FX.1 = 0 ∨ (FX.1 = 1 ∧ FX.2.2 = (z, v, f)) ∨ (FX.1 = 3 ∧ FX.2.2 = (z, v, f))) (hc : hc_look FX.1 = 0) : FX.1 = 0 := by
  rcases h with h0 | ⟨h1, -⟩ | ⟨h3, -⟩
  · exact h0
  · rw [h1] at hc; exact absurd hc (by decide)
  · rw [h3] at hc; exact absurd hc (by decide)
