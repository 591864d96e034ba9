def F_J6_bitCount_0f7a4 (x : Int32) : Int32 :=
  (((((((x - (((x.toUInt32 >>> ((1 : Int32).toUInt32 &&& Int32.toUInt32 31)).toInt32) &&& 1431655765)) &&& 858993459) + ((((x - (((x.toUInt32 >>> ((1 : Int32).toUInt32 &&& Int32.toUInt32 31)).toInt32) &&& 1431655765)).toUInt32 >>> ((2 : Int32).toUInt32 &&& Int32.toUInt32 31)).toInt32) &&& 858993459)) + (((((x - (((x.toUInt32 >>> ((1 : Int32).toUInt32 &&& Int32.toUInt32 31)).toInt32) &&& 1431655765)) &&& 858993459) + ((((x - (((x.toUInt32 >>> ((1 : Int32).toUInt32 &&& Int32.toUInt32 31)).toInt32) &&& 1431655765)).toUInt32 >>> ((2 : Int32).toUInt32 &&& Int32.toUInt32 31)).toInt32) &&& 858993459)).toUInt32 >>> ((4 : Int32).toUInt32 &&& Int32.toUInt32 31)).toInt32)) &&& 252645135) + (((((((x - (((x.toUInt32 >>> ((1 : Int32).toUInt32 &&& Int32.toUInt32 31)).toInt32) &&& 1431655765)) &&& 858993459) + ((((x - (((x.toUInt32 >>> ((1 : Int32).toUInt32 &&& Int32.toUInt32 31)).toInt32) &&& 1431655765)).toUInt32 >>> ((2 : Int32).toUInt32 &&& Int32.toUInt32 31)).toInt32) &&& 858993459)) + (((((x - (((x.toUInt32 >>> ((1 : Int32).toUInt32 &&& Int32.toUInt32 31)).toInt32) &&& 1431655765)) &&& 858993459) + ((((x - (((x.toUInt32 >>> ((1 : Int32).toUInt32 &&& Int32.toUInt32 31)).toInt32) &&& 1431655765)).toUInt32 >>> ((2 : Int32).toUInt32 &&& Int32.toUInt32 31)).toInt32) &&& 858993459)).toUInt32 >>> ((4 : Int32).toUInt32 &&& Int32.toUInt32 31)).toInt32)) &&& 252645135).toUInt32 >>> ((8 : Int32).toUInt32 &&& Int32.toUInt32 31)).toInt32)) + ((((((((x - (((x.toUInt32 >>> ((1 : Int32).toUInt32 &&& Int32.toUInt32 31)).toInt32) &&& 1431655765)) &&& 858993459) + ((((x - (((x.toUInt32 >>> ((1 : Int32).toUInt32 &&& Int32.toUInt32 31)).toInt32) &&& 1431655765)).toUInt32 >>> ((2 : Int32).toUInt32 &&& Int32.toUInt32 31)).toInt32) &&& 858993459)) + (((((x - (((x.toUInt32 >>> ((1 : Int32).toUInt32 &&& Int32.toUInt32 31)).toInt32) &&& 1431655765)) &&& 858993459) + ((((x - (((x.toUInt32 >>> ((1 : Int32).toUInt32 &&& Int32.toUInt32 31)).toInt32) &&& 1431655765)).toUInt32 >>> ((2 : Int32).toUInt32 &&& Int32.toUInt32 31)).toInt32) &&& 858993459)).toUInt32 >>> ((4 : Int32).toUInt32 &&& Int32.toUInt32 31)).toInt32)) &&& 252645135) + (((((((x - (((x.toUInt32 >>> ((1 : Int32).toUInt32 &&& Int32.toUInt32 31)).toInt32) &&& 1431655765)) &&& 858993459) + ((((x - (((x.toUInt32 >>> ((1 : Int32).toUInt32 &&& Int32.toUInt32 31)).toInt32) &&& 1431655765)).toUInt32 >>> ((2 : Int32).toUInt32 &&& Int32.toUInt32 31)).toInt32) &&& 858993459)) + (((((x - (((x.toUInt32 >>> ((1 : Int32).toUInt32 &&& Int32.toUInt32 31)).toInt32) &&& 1431655765)) &&& 858993459) + ((((x - (((x.toUInt32 >>> ((1 : Int32).toUInt32 &&& Int32.toUInt32 31)).toInt32) &&& 1431655765)).toUInt32 >>> ((2 : Int32).toUInt32 &&& Int32.toUInt32 31)).toInt32) &&& 858993459)).toUInt32 >>> ((4 : Int32).toUInt32 &&& Int32.toUInt32 31)).toInt32)) &&& 252645135).toUInt32 >>> ((8 : Int32).toUInt32 &&& Int32.toUInt32 31)).toInt32)).toUInt32 >>> ((16 : Int32).toUInt32 &&& Int32.toUInt32 31)).toInt32)) &&& 63
set_option maxHeartbeats 4000000 in
set_option maxRecDepth 100000 in
theorem c_J6_bitCount_0f7a4 (l : Launch) (x : Int32) : Met l yJ6_bitCount_0f7a4 wsJ6_bitCount_0f7a4 ({ frames := 0, cells := 0, slots := 0, locals := 0 }) (va_Pc [.int x] (fun _ => True)) (vp_Si (fun r => r = F_J6_bitCount_0f7a4 x)) 0 0 (fun _ => False) := by
  refine Met.ofW (cc := cJ6_bitCount_0f7a4) (maxL := 1) (ret := (some .int)) (by decide) rfl ?_
  intro p e s m args below meth c s₁ B hml hv
  obtain ⟨rfl, -⟩ := hv
  have hx := B.exec
  have hb := B.bytes
  have hr := B.returns
  have hts := atoms_spec (ws := wsJ6_bitCount_0f7a4) B.pre
  have hown : s.vm.findClass RJ6 = some m.cls := findClass_of_methodNamed B.named
  have hlocks := B.notSynchronized
  have hcn265 := hts (.constant RJ6 265 (1431655765)) (List.mem_of_getElem? (i := 1) rfl)
  have hcn266 := hts (.constant RJ6 266 (858993459)) (List.mem_of_getElem? (i := 2) rfl)
  have hcn267 := hts (.constant RJ6 267 (252645135)) (List.mem_of_getElem? (i := 3) rfl)
  have hl := lv_entry ([.int x]) (n := 1) (Nat.le_of_ble_eq_true rfl)
  rw [lg_entry_eq]
  generalize (lg_sl ([.int x]) ++ List.replicate (1 - (lg_sl ([.int x])).length) Slot.unset).toArray = ls at hl ⊢
  have hl : lv_has ls 1 [(0, .int x)] := hl
  generalize hF : F_J6_bitCount_0f7a4 x = R9
  generalize hQ9 : MQ below (vp_Si (fun r => r = R9)) _ s 0 0 (fun _ => False) = Q9
  rw [F_J6_bitCount_0f7a4] at hF
  refine lv_iload_n hx hb dJ6_bitCount_0f7a4_0 rfl (lv_at hl 0 rfl) ?_
  refine lv_iload_n hx hb dJ6_bitCount_0f7a4_1 rfl (lv_at hl 0 rfl) ?_
  refine lv_iconst (v := 1) hx hb dJ6_bitCount_0f7a4_2 (by decide) ?_
  refine lv_iushr hx hb dJ6_bitCount_0f7a4_3 rfl ?_
  refine lv_ldcw (v := 1431655765) hx hb hown hcn265 dJ6_bitCount_0f7a4_4 ?_
  refine lv_iand hx hb dJ6_bitCount_0f7a4_7 ?_
  refine lv_isub hx hb dJ6_bitCount_0f7a4_8 ?_
  refine lv_istore_n (lv' := [(0, .int (x - (((x.toUInt32 >>> ((1 : Int32).toUInt32 &&& Int32.toUInt32 31)).toInt32) &&& 1431655765)))]) hx hb dJ6_bitCount_0f7a4_9 rfl hl (by decide) rfl (fun ls hl => ?_)
  refine lv_iload_n hx hb dJ6_bitCount_0f7a4_10 rfl (lv_at hl 0 rfl) ?_
  refine lv_ldcw (v := 858993459) hx hb hown hcn266 dJ6_bitCount_0f7a4_11 ?_
  refine lv_iand hx hb dJ6_bitCount_0f7a4_14 ?_
  refine lv_iload_n hx hb dJ6_bitCount_0f7a4_15 rfl (lv_at hl 0 rfl) ?_
  refine lv_iconst (v := 2) hx hb dJ6_bitCount_0f7a4_16 (by decide) ?_
  refine lv_iushr hx hb dJ6_bitCount_0f7a4_17 rfl ?_
  refine lv_ldcw (v := 858993459) hx hb hown hcn266 dJ6_bitCount_0f7a4_18 ?_
  refine lv_iand hx hb dJ6_bitCount_0f7a4_21 ?_
  refine lv_iadd hx hb dJ6_bitCount_0f7a4_22 ?_
  refine lv_istore_n (lv' := [(0, .int (((x - (((x.toUInt32 >>> ((1 : Int32).toUInt32 &&& Int32.toUInt32 31)).toInt32) &&& 1431655765)) &&& 858993459) + ((((x - (((x.toUInt32 >>> ((1 : Int32).toUInt32 &&& Int32.toUInt32 31)).toInt32) &&& 1431655765)).toUInt32 >>> ((2 : Int32).toUInt32 &&& Int32.toUInt32 31)).toInt32) &&& 858993459)))]) hx hb dJ6_bitCount_0f7a4_23 rfl hl (by decide) rfl (fun ls hl => ?_)
  refine lv_iload_n hx hb dJ6_bitCount_0f7a4_24 rfl (lv_at hl 0 rfl) ?_
  refine lv_iload_n hx hb dJ6_bitCount_0f7a4_25 rfl (lv_at hl 0 rfl) ?_
  refine lv_iconst (v := 4) hx hb dJ6_bitCount_0f7a4_26 (by decide) ?_
  refine lv_iushr hx hb dJ6_bitCount_0f7a4_27 rfl ?_
  refine lv_iadd hx hb dJ6_bitCount_0f7a4_28 ?_
  refine lv_ldcw (v := 252645135) hx hb hown hcn267 dJ6_bitCount_0f7a4_29 ?_
  refine lv_iand hx hb dJ6_bitCount_0f7a4_32 ?_
  refine lv_istore_n (lv' := [(0, .int (((((x - (((x.toUInt32 >>> ((1 : Int32).toUInt32 &&& Int32.toUInt32 31)).toInt32) &&& 1431655765)) &&& 858993459) + ((((x - (((x.toUInt32 >>> ((1 : Int32).toUInt32 &&& Int32.toUInt32 31)).toInt32) &&& 1431655765)).toUInt32 >>> ((2 : Int32).toUInt32 &&& Int32.toUInt32 31)).toInt32) &&& 858993459)) + (((((x - (((x.toUInt32 >>> ((1 : Int32).toUInt32 &&& Int32.toUInt32 31)).toInt32) &&& 1431655765)) &&& 858993459) + ((((x - (((x.toUInt32 >>> ((1 : Int32).toUInt32 &&& Int32.toUInt32 31)).toInt32) &&& 1431655765)).toUInt32 >>> ((2 : Int32).toUInt32 &&& Int32.toUInt32 31)).toInt32) &&& 858993459)).toUInt32 >>> ((4 : Int32).toUInt32 &&& Int32.toUInt32 31)).toInt32)) &&& 252645135))]) hx hb dJ6_bitCount_0f7a4_33 rfl hl (by decide) rfl (fun ls hl => ?_)
  refine lv_iload_n hx hb dJ6_bitCount_0f7a4_34 rfl (lv_at hl 0 rfl) ?_
  refine lv_iload_n hx hb dJ6_bitCount_0f7a4_35 rfl (lv_at hl 0 rfl) ?_
  refine lv_bipush (v := 8) hx hb dJ6_bitCount_0f7a4_36 (by decide) ?_
  refine lv_iushr hx hb dJ6_bitCount_0f7a4_38 rfl ?_
  refine lv_iadd hx hb dJ6_bitCount_0f7a4_39 ?_
  refine lv_istore_n (lv' := [(0, .int ((((((x - (((x.toUInt32 >>> ((1 : Int32).toUInt32 &&& Int32.toUInt32 31)).toInt32) &&& 1431655765)) &&& 858993459) + ((((x - (((x.toUInt32 >>> ((1 : Int32).toUInt32 &&& Int32.toUInt32 31)).toInt32) &&& 1431655765)).toUInt32 >>> ((2 : Int32).toUInt32 &&& Int32.toUInt32 31)).toInt32) &&& 858993459)) + (((((x - (((x.toUInt32 >>> ((1 : Int32).toUInt32 &&& Int32.toUInt32 31)).toInt32) &&& 1431655765)) &&& 858993459) + ((((x - (((x.toUInt32 >>> ((1 : Int32).toUInt32 &&& Int32.toUInt32 31)).toInt32) &&& 1431655765)).toUInt32 >>> ((2 : Int32).toUInt32 &&& Int32.toUInt32 31)).toInt32) &&& 858993459)).toUInt32 >>> ((4 : Int32).toUInt32 &&& Int32.toUInt32 31)).toInt32)) &&& 252645135) + (((((((x - (((x.toUInt32 >>> ((1 : Int32).toUInt32 &&& Int32.toUInt32 31)).toInt32) &&& 1431655765)) &&& 858993459) + ((((x - (((x.toUInt32 >>> ((1 : Int32).toUInt32 &&& Int32.toUInt32 31)).toInt32) &&& 1431655765)).toUInt32 >>> ((2 : Int32).toUInt32 &&& Int32.toUInt32 31)).toInt32) &&& 858993459)) + (((((x - (((x.toUInt32 >>> ((1 : Int32).toUInt32 &&& Int32.toUInt32 31)).toInt32) &&& 1431655765)) &&& 858993459) + ((((x - (((x.toUInt32 >>> ((1 : Int32).toUInt32 &&& Int32.toUInt32 31)).toInt32) &&& 1431655765)).toUInt32 >>> ((2 : Int32).toUInt32 &&& Int32.toUInt32 31)).toInt32) &&& 858993459)).toUInt32 >>> ((4 : Int32).toUInt32 &&& Int32.toUInt32 31)).toInt32)) &&& 252645135).toUInt32 >>> ((8 : Int32).toUInt32 &&& Int32.toUInt32 31)).toInt32)))]) hx hb dJ6_bitCount_0f7a4_40 rfl hl (by decide) rfl (fun ls hl => ?_)
  refine lv_iload_n hx hb dJ6_bitCount_0f7a4_41 rfl (lv_at hl 0 rfl) ?_
  refine lv_iload_n hx hb dJ6_bitCount_0f7a4_42 rfl (lv_at hl 0 rfl) ?_
  refine lv_bipush (v := 16) hx hb dJ6_bitCount_0f7a4_43 (by decide) ?_
  refine lv_iushr hx hb dJ6_bitCount_0f7a4_45 rfl ?_
  refine lv_iadd hx hb dJ6_bitCount_0f7a4_46 ?_
  refine lv_istore_n (lv' := [(0, .int (((((((x - (((x.toUInt32 >>> ((1 : Int32).toUInt32 &&& Int32.toUInt32 31)).toInt32) &&& 1431655765)) &&& 858993459) + ((((x - (((x.toUInt32 >>> ((1 : Int32).toUInt32 &&& Int32.toUInt32 31)).toInt32) &&& 1431655765)).toUInt32 >>> ((2 : Int32).toUInt32 &&& Int32.toUInt32 31)).toInt32) &&& 858993459)) + (((((x - (((x.toUInt32 >>> ((1 : Int32).toUInt32 &&& Int32.toUInt32 31)).toInt32) &&& 1431655765)) &&& 858993459) + ((((x - (((x.toUInt32 >>> ((1 : Int32).toUInt32 &&& Int32.toUInt32 31)).toInt32) &&& 1431655765)).toUInt32 >>> ((2 : Int32).toUInt32 &&& Int32.toUInt32 31)).toInt32) &&& 858993459)).toUInt32 >>> ((4 : Int32).toUInt32 &&& Int32.toUInt32 31)).toInt32)) &&& 252645135) + (((((((x - (((x.toUInt32 >>> ((1 : Int32).toUInt32 &&& Int32.toUInt32 31)).toInt32) &&& 1431655765)) &&& 858993459) + ((((x - (((x.toUInt32 >>> ((1 : Int32).toUInt32 &&& Int32.toUInt32 31)).toInt32) &&& 1431655765)).toUInt32 >>> ((2 : Int32).toUInt32 &&& Int32.toUInt32 31)).toInt32) &&& 858993459)) + (((((x - (((x.toUInt32 >>> ((1 : Int32).toUInt32 &&& Int32.toUInt32 31)).toInt32) &&& 1431655765)) &&& 858993459) + ((((x - (((x.toUInt32 >>> ((1 : Int32).toUInt32 &&& Int32.toUInt32 31)).toInt32) &&& 1431655765)).toUInt32 >>> ((2 : Int32).toUInt32 &&& Int32.toUInt32 31)).toInt32) &&& 858993459)).toUInt32 >>> ((4 : Int32).toUInt32 &&& Int32.toUInt32 31)).toInt32)) &&& 252645135).toUInt32 >>> ((8 : Int32).toUInt32 &&& Int32.toUInt32 31)).toInt32)) + ((((((((x - (((x.toUInt32 >>> ((1 : Int32).toUInt32 &&& Int32.toUInt32 31)).toInt32) &&& 1431655765)) &&& 858993459) + ((((x - (((x.toUInt32 >>> ((1 : Int32).toUInt32 &&& Int32.toUInt32 31)).toInt32) &&& 1431655765)).toUInt32 >>> ((2 : Int32).toUInt32 &&& Int32.toUInt32 31)).toInt32) &&& 858993459)) + (((((x - (((x.toUInt32 >>> ((1 : Int32).toUInt32 &&& Int32.toUInt32 31)).toInt32) &&& 1431655765)) &&& 858993459) + ((((x - (((x.toUInt32 >>> ((1 : Int32).toUInt32 &&& Int32.toUInt32 31)).toInt32) &&& 1431655765)).toUInt32 >>> ((2 : Int32).toUInt32 &&& Int32.toUInt32 31)).toInt32) &&& 858993459)).toUInt32 >>> ((4 : Int32).toUInt32 &&& Int32.toUInt32 31)).toInt32)) &&& 252645135) + (((((((x - (((x.toUInt32 >>> ((1 : Int32).toUInt32 &&& Int32.toUInt32 31)).toInt32) &&& 1431655765)) &&& 858993459) + ((((x - (((x.toUInt32 >>> ((1 : Int32).toUInt32 &&& Int32.toUInt32 31)).toInt32) &&& 1431655765)).toUInt32 >>> ((2 : Int32).toUInt32 &&& Int32.toUInt32 31)).toInt32) &&& 858993459)) + (((((x - (((x.toUInt32 >>> ((1 : Int32).toUInt32 &&& Int32.toUInt32 31)).toInt32) &&& 1431655765)) &&& 858993459) + ((((x - (((x.toUInt32 >>> ((1 : Int32).toUInt32 &&& Int32.toUInt32 31)).toInt32) &&& 1431655765)).toUInt32 >>> ((2 : Int32).toUInt32 &&& Int32.toUInt32 31)).toInt32) &&& 858993459)).toUInt32 >>> ((4 : Int32).toUInt32 &&& Int32.toUInt32 31)).toInt32)) &&& 252645135).toUInt32 >>> ((8 : Int32).toUInt32 &&& Int32.toUInt32 31)).toInt32)).toUInt32 >>> ((16 : Int32).toUInt32 &&& Int32.toUInt32 31)).toInt32)))]) hx hb dJ6_bitCount_0f7a4_47 rfl hl (by decide) rfl (fun ls hl => ?_)
  refine lv_iload_n hx hb dJ6_bitCount_0f7a4_48 rfl (lv_at hl 0 rfl) ?_
  refine lv_bipush (v := 63) hx hb dJ6_bitCount_0f7a4_49 (by decide) ?_
  refine lv_iand hx hb dJ6_bitCount_0f7a4_51 ?_
  subst hQ9
  exact W.iret hx hb hr (fun t ht hW => ⟨_, rfl, hF, ht⟩) (fun q h => by cases h) dJ6_bitCount_0f7a4_52
def F_X4_group (z : Nat → Nat) (v : Nat → Int32) (f : Nat → Nat → Int32) (t u : Int32) : Nat × Int32 × (Nat → Nat) × (Nat → Int32) × (Nat → Nat → Int32) :=
  if F_X4_areTwoTraders z v f t u = 0 then
    (1, 0, z, v, f)
  else
    if F_X4_holds (f 0 t.toNatClampNeg) u = 0 then
      if F_X4_holds (F_X4_groupsAmong z v f u (F_X4_everyTrader z v f)) t = 0 then
        if F_J6_bitCount_0f7a4 (f 0 t.toNatClampNeg) < 4 then
          (0, 1, z, v, uu f 0 (upd (f 0) t.toNatClampNeg ((f 0 t.toNatClampNeg) ||| (F_X4_bit u))))
        else
          (0, 0, z, v, f)
      else
        (0, 0, z, v, f)
    else
      (0, 0, z, v, f)
set_option maxHeartbeats 4000000 in
set_option maxRecDepth 100000 in
theorem c_X4_group (l : Launch) (dC : Nat → ClassId) (dI : Nat → Nat → Nat) (ad : Nat → Nat) (cI cZ : ClassId) (z : Nat → Nat) (v : Nat → Int32) (f : Nat → Nat → Int32) (sz : Nat) (t u : Int32) (hok : okX z v f) (hlt : l.stackTraces = false) : vx_Met l yX4_group wsX4_group ({ frames := 6, cells := 1, slots := 6, locals := 82 }) (va_Pc [.ref (ad 0), .int t, .int u] (fun U => U.heap.size = sz ∧ va_D (fun _ => True) (wX ad cI cZ z v f) ∧ kX dC dI ad cI cZ z v f U ∧ tW (va_A (wX ad cI cZ z v f) sz) U)) (va_Qi (fun (r : Int32) (_ : Unit) => (F_X4_group z v f t u).1 = 0 ∧ r = (F_X4_group z v f t u).2.1) (fun _ U9 => va_P (dC, dI) vwCl (wX ad cI cZ ((F_X4_group z v f t u).2.2.1) ((F_X4_group z v f t u).2.2.2.1) ((F_X4_group z v f t u).2.2.2.2)) U9.heap) (va_A (wX ad cI cZ z v f) sz)) (vx_X (fun _ : Unit => True) (fun E _ U9 => E = exN (F_X4_group z v f t u).1 ∧ ¬ (F_X4_group z v f t u).1 = 0 ∧ va_P (dC, dI) vwCl (wX ad cI cZ z v f) U9.heap) (va_A (wX ad cI cZ z v f) sz)) 1 6 (va_A (wX ad cI cZ z v f) sz) := by
  refine vx_ofW (cc := cX4_group) (maxL := 5) (ret := (some .int)) (by decide) rfl ?_
  intro p e s m args below meth c s₁ B hml hexc hv
  obtain ⟨rfl, hsz, hD0, ⟨hP, hK, hN⟩, hT⟩ := hv
  have hx := B.exec
  have hb := B.bytes
  have hr := B.returns
  have hts := atoms_spec (ws := wsX4_group) B.pre
  have hown : s.vm.findClass RX4 = some m.cls := findClass_of_methodNamed B.named
  have hlocks := B.notSynchronized
  have hok9 := hok
  obtain ⟨hz0, hz1, hz2, hz3, hz4, hbz, hbs⟩ := hok9
  have hat87 : ∀ w ∈ vx_atS RX4 87 "java/lang/IllegalArgumentException" ["java/lang/RuntimeException", "java/lang/Exception"], w.before _ s = true := vx_hat (B := badL) (fun w hw => hts w ((fun w h => List.mem_cons_of_mem _ (List.mem_append_right _ h)) w hw)) at_bad87 (fun w hw => va_Nw.use (bad_tab (badL_all w hw)) (hT.2.2.2 w hw))
  have hck83 := hts (.classLink RX4 83 "java/lang/IllegalArgumentException") (List.mem_of_getElem? (i := 1) rfl)
  have hei83 := hts (.initialized "java/lang/IllegalArgumentException") (List.mem_of_getElem? (i := 2) rfl)
  have hfl16 := hts (.fieldLink RX4 16 "TraderRights" "directGroups" "[I") (List.mem_of_getElem? (i := 3) rfl)
  have hinX4 : ∀ w ∈ u_ws RX4 TX4 11, w ∈ wsX4_group := fun w h => List.mem_cons_of_mem _ (List.mem_append_left _ (List.mem_append_right _ h))
  subst hsz
  have hD := hD0.self (sz := s.heap.size)
  generalize hAe : va_A (wX ad cI cZ z v f) s.heap.size = A at hD hT ⊢
  have hA : ∀ q : Nat, s.heap.size ≤ q → A q := fun q h => by rw [← hAe]; exact Or.inr h
  have hS : va_S A s.heap s.heap [] := va_S.rf
  have hl := lv_entry ([.ref (ad 0), .int t, .int u]) (n := 5) (Nat.le_of_ble_eq_true rfl)
  rw [lg_entry_eq]
  generalize (lg_sl ([.ref (ad 0), .int t, .int u]) ++ List.replicate (5 - (lg_sl ([.ref (ad 0), .int t, .int u])).length) Slot.unset).toArray = ls at hl ⊢
  have hl : lv_has ls 5 [(0, .ref (ad 0)), (1, .int t), (2, .int u)] := hl
  generalize hF : F_X4_group z v f t u = R9
  generalize hQ9 : vx_MQ below _ _ _ s 1 6 A = Q9
  rw [F_X4_group] at hF
  refine lv_aload_n hx hb dX4_group_0 rfl (lv_at hl 0 rfl) ?_
  refine lv_iload_n hx hb dX4_group_1 rfl (lv_at hl 1 rfl) ?_
  refine lv_iload_n hx hb dX4_group_2 rfl (lv_at hl 2 rfl) ?_
  refine vp_callSi (W.runV (As := [.int t, .int u]) (rest := []) ⟨hx, hb, hml, hown, hts⟩ (c_X4_areTwoTraders l dC dI ad cI cZ z v f t u hok) (cwV 2 hts gX4_group_X4_areTwoTraders rfl rfl rfl (by decide +kernel) ⟨Nat.le_of_ble_eq_true rfl, Nat.le_of_ble_eq_true rfl⟩) (preX (ci := 4) (q0 := 0) hP hK hN rfl rfl rfl) rfl rfl hl.1 rfl (lv_room (Nat.le_of_ble_eq_true rfl)) dX4_group_3 ⟨Nat.zero_le _, Nat.zero_le _⟩) (fun r1 h9 => ?_)
  have hr1 : r1 = F_X4_areTwoTraders z v f t u := h9
  try rw [← hr1] at hF
  refine lv_if_ne (tgt := 19) hx hb dX4_group_6 (by decide) (fun c2 => ?_) (fun c2 => ?_)
  · rw [if_neg c2] at hF
    have c2f : ¬ F_X4_areTwoTraders z v f t u = 0 := by rw [← hr1]; exact c2
    refine lv_aload_n hx hb dX4_group_19 rfl (lv_at hl 0 rfl) ?_
    refine va_get (D := (dC, dI)) (ci := 4) (v := .ref (ad 1)) (C := RX4) (T := TX4) (N := 11) hx hb hts hinX4 hown hK hP 0 rfl rfl 2 (by decide) hfl16 (fun _ h9 => h9) rfl dX4_group_20 ?_
    refine lv_iload_n hx hb dX4_group_23 rfl (lv_at hl 1 rfl) ?_
    refine va_iald hx hb hK hP 1 0 rfl rfl (in_twoX hok c2f) dX4_group_24 ?_
    refine lv_istore_n (lv' := [(3, .int (f 0 t.toNatClampNeg)), (0, .ref (ad 0)), (1, .int t), (2, .int u)]) hx hb dX4_group_25 rfl hl (by decide) rfl (fun ls hl => ?_)
    refine lv_aload_n hx hb dX4_group_26 rfl (lv_at hl 1 rfl) ?_
    refine lv_iload_n hx hb dX4_group_27 rfl (lv_at hl 3 rfl) ?_
    refine lv_aload_n hx hb dX4_group_28 rfl (lv_at hl 1 rfl) ?_
    refine vp_callSi (W.runV (As := []) (rest := [.int u, .ref (ad 0)]) ⟨hx, hb, hml, hown, hts⟩ (c_X4_everyTrader l dC dI ad cI cZ z v f hok) (cwV 0 hts gX4_group_X4_everyTrader rfl rfl rfl (by decide +kernel) ⟨Nat.le_of_ble_eq_true rfl, Nat.le_of_ble_eq_true rfl⟩) (preX (ci := 4) (q0 := 0) hP hK hN rfl rfl rfl) rfl rfl hl.1 rfl (lv_room (Nat.le_of_ble_eq_true rfl)) dX4_group_29 ⟨Nat.zero_le _, Nat.zero_le _⟩) (fun r3 h9 => ?_)
    have hr3 : r3 = F_X4_everyTrader z v f := h9
    try rw [← hr3] at hF
    refine vp_callSi (W.runV (As := [.int u, .int r3]) (rest := []) ⟨hx, hb, hml, hown, hts⟩ (c_X4_groupsAmong l dC dI ad cI cZ z v f u r3 hok (in_towX hok c2f)) (cwV 2 hts gX4_group_X4_groupsAmong rfl rfl rfl (by decide +kernel) ⟨Nat.le_of_ble_eq_true rfl, Nat.le_of_ble_eq_true rfl⟩) (preX (ci := 4) (q0 := 0) hP hK hN rfl rfl rfl) rfl rfl hl.1 rfl (lv_room (Nat.le_of_ble_eq_true rfl)) dX4_group_32 ⟨Nat.zero_le _, Nat.zero_le _⟩) (fun r4 h9 => ?_)
    have hr4 : r4 = F_X4_groupsAmong z v f u r3 := h9
    try rw [← hr4] at hF
    refine lv_iload_n hx hb dX4_group_35 rfl (lv_at hl 2 rfl) ?_
    refine vp_callSi (W.runS (As := [.int r4, .int t]) (rest := []) ⟨hx, hb, hml, hown, hts⟩ (c_X4_holds l r4 t) (cwS 2 hts gX4_group_X4_holds rfl rfl rfl (by decide +kernel) ⟨Nat.le_of_ble_eq_true rfl, Nat.le_of_ble_eq_true rfl⟩) preT rfl rfl hl.1 rfl (lv_room (Nat.le_of_ble_eq_true rfl)) dX4_group_36 ⟨Nat.zero_le _, Nat.zero_le _⟩) (fun r5 h9 => ?_)
    have hr5 : r5 = F_X4_holds r4 t := h9
    try rw [← hr5] at hF
    refine lv_istore (lv' := [(4, .int r5), (3, .int (f 0 t.toNatClampNeg)), (0, .ref (ad 0)), (1, .int t), (2, .int u)]) hx hb dX4_group_39 hl (by decide) rfl (fun ls hl => ?_)
    refine lv_iload_n hx hb dX4_group_41 rfl (lv_at hl 1 rfl) ?_
    refine lv_iload_n hx hb dX4_group_42 rfl (lv_at hl 4 rfl) ?_
    refine vp_callSi (W.runS (As := [.int (f 0 t.toNatClampNeg), .int u]) (rest := []) ⟨hx, hb, hml, hown, hts⟩ (c_X4_holds l (f 0 t.toNatClampNeg) u) (cwS 2 hts gX4_group_X4_holds rfl rfl rfl (by decide +kernel) ⟨Nat.le_of_ble_eq_true rfl, Nat.le_of_ble_eq_true rfl⟩) preT rfl rfl hl.1 rfl (lv_room (Nat.le_of_ble_eq_true rfl)) dX4_group_43 ⟨Nat.zero_le _, Nat.zero_le _⟩) (fun r6 h9 => ?_)
    have hr6 : r6 = F_X4_holds (f 0 t.toNatClampNeg) u := h9
    try rw [← hr6] at hF
    refine lv_if_ne (tgt := 62) hx hb dX4_group_46 (by decide) (fun c7 => ?_) (fun c7 => ?_)
    · rw [if_neg c7] at hF
      have c7f : ¬ F_X4_holds (f 0 t.toNatClampNeg) u = 0 := by rw [← hr6]; exact c7
      refine lv_iconst (v := 0) hx hb dX4_group_62 (by decide) ?_
      subst hF
      subst hQ9
      refine vx_ret ?_
      refine W.widen (k := 1) (n := 6) (by decide) (by decide) ?_
      exact W.iret (v := 0) hx hb hr (fun t9 ht hW => ⟨⟨0, (), rfl, ⟨rfl, rfl⟩, by show va_P (dC, dI) vwCl _ t9.heap; rw [ht]; exact hP⟩, hS.F ht⟩) hS.2.2 dX4_group_63
    · rw [if_pos c7] at hF
      have c7f : F_X4_holds (f 0 t.toNatClampNeg) u = 0 := by rw [← hr6]; exact c7
      refine lv_iload hx hb dX4_group_49 (lv_at hl 0 rfl) ?_
      refine lv_if_ne (tgt := 62) hx hb dX4_group_51 (by decide) (fun c8 => ?_) (fun c8 => ?_)
      · rw [if_neg c8] at hF
        have c8f : ¬ F_X4_holds r4 t = 0 := by rw [← hr5]; exact c8
        refine lv_iconst (v := 0) hx hb dX4_group_62 (by decide) ?_
        subst hF
        subst hQ9
        refine vx_ret ?_
        refine W.widen (k := 1) (n := 6) (by decide) (by decide) ?_
        exact W.iret (v := 0) hx hb hr (fun t9 ht hW => ⟨⟨0, (), rfl, ⟨rfl, rfl⟩, by show va_P (dC, dI) vwCl _ t9.heap; rw [ht]; exact hP⟩, hS.F ht⟩) hS.2.2 dX4_group_63
      · rw [if_pos c8] at hF
        have c8f : F_X4_holds r4 t = 0 := by rw [← hr5]; exact c8
        refine lv_iload_n hx hb dX4_group_54 rfl (lv_at hl 1 rfl) ?_
        refine vp_callSi (W.runS (As := [.int (f 0 t.toNatClampNeg)]) (rest := []) ⟨hx, hb, hml, hown, hts⟩ (c_J6_bitCount_0f7a4 l (f 0 t.toNatClampNeg)) (va_cwS 1 hts gX4_group_J6_bitCount_0f7a4 rfl rfl rfl (by decide +kernel) ⟨Nat.le_of_ble_eq_true rfl, Nat.le_of_ble_eq_true rfl⟩) preT rfl rfl hl.1 rfl (lv_room (Nat.le_of_ble_eq_true rfl)) dX4_group_55 ⟨Nat.zero_le _, Nat.zero_le _⟩) (fun r9 h9 => ?_)
        have hr9 : r9 = F_J6_bitCount_0f7a4 (f 0 t.toNatClampNeg) := h9
        try rw [← hr9] at hF
        refine lv_iconst (v := 4) hx hb dX4_group_58 (by decide) ?_
        refine lv_icmp_lt (tgt := 64) hx hb dX4_group_59 (by decide) (fun c10 => ?_) (fun c10 => ?_)
        · rw [if_pos c10] at hF
          refine lv_aload_n hx hb dX4_group_64 rfl (lv_at hl 2 rfl) ?_
          refine va_get (D := (dC, dI)) (ci := 4) (v := .ref (ad 1)) (C := RX4) (T := TX4) (N := 11) hx hb hts hinX4 hown hK hP 0 rfl rfl 2 (by decide) hfl16 (fun _ h9 => h9) rfl dX4_group_65 ?_
          refine lv_iload_n hx hb dX4_group_68 rfl (lv_at hl 3 rfl) ?_
          refine lv_iload_n hx hb dX4_group_69 rfl (lv_at hl 1 rfl) ?_
          refine lv_iload_n hx hb dX4_group_70 rfl (lv_at hl 4 rfl) ?_
          refine vp_callSi (W.runS (As := [.int u]) (rest := [.int (f 0 t.toNatClampNeg), .int t, .ref (ad 1)]) ⟨hx, hb, hml, hown, hts⟩ (c_X4_bit l u) (cwS 1 hts gX4_group_X4_bit rfl rfl rfl (by decide +kernel) ⟨Nat.le_of_ble_eq_true rfl, Nat.le_of_ble_eq_true rfl⟩) preT rfl rfl hl.1 rfl (lv_room (Nat.le_of_ble_eq_true rfl)) dX4_group_71 ⟨Nat.zero_le _, Nat.zero_le _⟩) (fun r11 h9 => ?_)
          have hr11 : r11 = F_X4_bit u := h9
          try rw [← hr11] at hF
          refine lv_ior hx hb dX4_group_74 ?_
          refine va_iast hx hb hK hP hD hS 1 0 rfl rfl (in_twoX hok c2f) dX4_group_75 (fun H locs hP hD hS => ?_)
          have hP : va_P (dC, dI) vwCl (wX ad cI cZ z v (uu f 0 (upd (f 0) t.toNatClampNeg ((f 0 t.toNatClampNeg) ||| r11)))) H := hP
          have hD : va_D A (wX ad cI cZ z v (uu f 0 (upd (f 0) t.toNatClampNeg ((f 0 t.toNatClampNeg) ||| r11)))) := hD
          refine lv_iconst (v := 1) hx hb dX4_group_76 (by decide) ?_
          subst hF
          subst hQ9
          refine vx_ret ?_
          refine W.widen (k := 1) (n := 6) (by decide) (by decide) ?_
          exact W.iret (v := 1) hx hb hr (fun t9 ht hW => ⟨⟨1, (), rfl, ⟨rfl, rfl⟩, by show va_P (dC, dI) vwCl _ t9.heap; rw [ht]; exact hP⟩, hS.F ht⟩) hS.2.2 dX4_group_77
        · rw [if_neg c10] at hF
          refine lv_iconst (v := 0) hx hb dX4_group_62 (by decide) ?_
          subst hF
          subst hQ9
          refine vx_ret ?_
          refine W.widen (k := 1) (n := 6) (by decide) (by decide) ?_
          exact W.iret (v := 0) hx hb hr (fun t9 ht hW => ⟨⟨0, (), rfl, ⟨rfl, rfl⟩, by show va_P (dC, dI) vwCl _ t9.heap; rw [ht]; exact hP⟩, hS.F ht⟩) hS.2.2 dX4_group_63
  · rw [if_pos c2] at hF
    have c2f : F_X4_areTwoTraders z v f t u = 0 := by rw [← hr1]; exact c2
    subst hF
    subst hQ9
    obtain ⟨sa9, hstr9⟩ := hT.2.2.1 (113, "no such two traders") (by decide +kernel)
    exact vx_throwS (cls := "java/lang/IllegalArgumentException") (names := ["java/lang/RuntimeException", "java/lang/Exception"]) hx hb hlt hown (by decide +kernel) (by decide +kernel) hck83 hei83 hstr9 hat87 ot87 hT.1 hT.2.1 hS (by rw [hml]; exact hl.1) dX4_group_9 dX4_group_12 dX4_group_13 dX4_group_15 dX4_group_18 (fun x h => (hexc x h).elim) (by decide) (by decide) (by decide) (by decide) hlocks (fun t9 hal hsz hkp => ⟨(), trivial, ⟨rfl, by show ¬ (1 : Nat) = 0; decide, hP.kept (fun k q hq => hkp _ (hP k q hq).lt)⟩, ⟨Nat.le_trans hS.1 hsz, fun q h1 h2 => (hkp q (Nat.lt_of_lt_of_le h1 hS.1)).trans (hS.2.1 q h1 h2)⟩⟩) hS.2.2 (by decide) (by decide)
def F_X4_count (z : Nat → Nat) (v : Nat → Int32) (f : Nat → Nat → Int32) (w : Int32) : Int32 :=
  if w = 0 then
    nI (z 0)
  else
    if w = 1 then
      nI (z 1)
    else
      if w = 2 then
        nI (z 2)
      else
        if w = 3 then
          nI (z 3)
        else
          if w = 4 then
            v 0
          else
            if w = 5 then
              nI (z 4)
            else
              (-1)
set_option maxHeartbeats 4000000 in
set_option maxRecDepth 100000 in
theorem c_X4_count (l : Launch) (dC : Nat → ClassId) (dI : Nat → Nat → Nat) (ad : Nat → Nat) (cI cZ : ClassId) (z : Nat → Nat) (v : Nat → Int32) (f : Nat → Nat → Int32) (w : Int32) (hok : okX z v f) : Met l yX4_count wsX4_count ({ frames := 0, cells := 0, slots := 0, locals := 0 }) (va_Pc [.ref (ad 0), .int w] (kX dC dI ad cI cZ z v f)) (vp_Si (fun r => r = F_X4_count z v f w)) 0 0 (fun _ => False) := by
  refine Met.ofW (cc := cX4_count) (maxL := 2) (ret := (some .int)) (by decide) rfl ?_
  intro p e s m args below meth c s₁ B hml hv
  obtain ⟨rfl, hP, hK, hN⟩ := hv
  have hx := B.exec
  have hb := B.bytes
  have hr := B.returns
  have hts := atoms_spec (ws := wsX4_count) B.pre
  have hown : s.vm.findClass RX4 = some m.cls := findClass_of_methodNamed B.named
  have hlocks := B.notSynchronized
  have hok9 := hok
  obtain ⟨hz0, hz1, hz2, hz3, hz4, hbz, hbs⟩ := hok9
  have hfl13 := hts (.fieldLink RX4 13 "TraderRights" "actsOfTwo" "I") (List.mem_of_getElem? (i := 5) rfl)
  have hfl136 := hN.use (args := ([.ref (ad 0), .int w] : List Value).toArray) (w := .fieldLinkNest RX4 136 "TraderRights$Mandates" "size" "I" "TraderRights") (by decide +kernel)
  have hfl144 := hN.use (args := ([.ref (ad 0), .int w] : List Value).toArray) (w := .fieldLinkNest RX4 144 "TraderRights$Suspensions" "size" "I" "TraderRights") (by decide +kernel)
  have hfl197 := hN.use (args := ([.ref (ad 0), .int w] : List Value).toArray) (w := .fieldLinkNest RX4 197 "TraderRights$Reader" "lettersRead" "I" "TraderRights") (by decide +kernel)
  have hfl41 := hts (.fieldLink RX4 41 "TraderRights" "rights" "LTraderRights$Rights;") (List.mem_of_getElem? (i := 2) rfl)
  have hfl48 := hts (.fieldLink RX4 48 "TraderRights" "mandates" "LTraderRights$Mandates;") (List.mem_of_getElem? (i := 3) rfl)
  have hfl55 := hts (.fieldLink RX4 55 "TraderRights" "suspensions" "LTraderRights$Suspensions;") (List.mem_of_getElem? (i := 4) rfl)
  have hfl62 := hts (.fieldLink RX4 62 "TraderRights" "reader" "LTraderRights$Reader;") (List.mem_of_getElem? (i := 6) rfl)
  have hfl7 := hts (.fieldLink RX4 7 "TraderRights" "traders" "I") (List.mem_of_getElem? (i := 1) rfl)
  have hfl93 := hN.use (args := ([.ref (ad 0), .int w] : List Value).toArray) (w := .fieldLinkNest RX4 93 "TraderRights$Rights" "size" "I" "TraderRights") (by decide +kernel)
  have hinX0 : ∀ w ∈ u_ws RX0 TX0 5, w ∈ wsX4_count := fun w h => List.mem_cons_of_mem _ (List.mem_append_left _ (List.mem_append_left _ (List.mem_append_right _ h)))
  have hinX1 : ∀ w ∈ u_ws RX1 TX1 3, w ∈ wsX4_count := fun w h => List.mem_cons_of_mem _ (List.mem_append_right _ h)
  have hinX2 : ∀ w ∈ u_ws RX2 TX2 6, w ∈ wsX4_count := fun w h => List.mem_cons_of_mem _ (List.mem_append_left _ (List.mem_append_left _ (List.mem_append_left _ (List.mem_append_right _ h))))
  have hinX3 : ∀ w ∈ u_ws RX3 TX3 4, w ∈ wsX4_count := fun w h => List.mem_cons_of_mem _ (List.mem_append_left _ (List.mem_append_right _ h))
  have hinX4 : ∀ w ∈ u_ws RX4 TX4 11, w ∈ wsX4_count := fun w h => List.mem_cons_of_mem _ (List.mem_append_left _ (List.mem_append_left _ (List.mem_append_left _ (List.mem_append_left _ (List.mem_append_right _ h)))))
  have hl := lv_entry ([.ref (ad 0), .int w]) (n := 2) (Nat.le_of_ble_eq_true rfl)
  rw [lg_entry_eq]
  generalize (lg_sl ([.ref (ad 0), .int w]) ++ List.replicate (2 - (lg_sl ([.ref (ad 0), .int w])).length) Slot.unset).toArray = ls at hl ⊢
  have hl : lv_has ls 2 [(0, .ref (ad 0)), (1, .int w)] := hl
  generalize hF : F_X4_count z v f w = R9
  generalize hQ9 : MQ below (vp_Si (fun r => r = R9)) _ s 0 0 (fun _ => False) = Q9
  rw [F_X4_count] at hF
  refine lv_iload_n hx hb dX4_count_0 rfl (lv_at hl 1 rfl) ?_
  by_cases c1 : w = 0
  · rw [if_pos c1] at hF
    refine lv_tableIn (off := 39) (tgt := 40) hx hb dX4_count_1 (by rw [c1]; decide) (by rw [c1]; decide) (by rw [c1]; rfl) (by decide) ?_
    refine lv_aload_n hx hb dX4_count_40 rfl (lv_at hl 0 rfl) ?_
    refine va_get (D := (dC, dI)) (ci := 4) (v := .int (nI (z 0))) (C := RX4) (T := TX4) (N := 11) hx hb hts hinX4 hown hK hP 0 rfl rfl 0 (by decide) hfl7 (fun _ h9 => h9) rfl dX4_count_41 ?_
    subst hQ9
    exact W.iret hx hb hr (fun t ht hW => ⟨_, rfl, hF, ht⟩) (fun q h => by cases h) dX4_count_44
  rw [if_neg c1] at hF
  by_cases c2 : w = 1
  · rw [if_pos c2] at hF
    refine lv_tableIn (off := 44) (tgt := 45) hx hb dX4_count_1 (by rw [c2]; decide) (by rw [c2]; decide) (by rw [c2]; rfl) (by decide) ?_
    refine lv_aload_n hx hb dX4_count_45 rfl (lv_at hl 0 rfl) ?_
    refine va_get (D := (dC, dI)) (ci := 4) (v := .ref (ad 6)) (C := RX4) (T := TX4) (N := 11) hx hb hts hinX4 hown hK hP 0 rfl rfl 7 (by decide) hfl41 (fun _ h9 => h9) rfl dX4_count_46 ?_
    refine va_getN (D := (dC, dI)) (ci := 2) (v := .int (nI (z 1))) (C := RX2) (T := TX2) (N := 6) hx hb hts hinX2 hown hK hP 6 rfl rfl 0 (by decide) hfl93 (fun _ h9 => h9) rfl dX4_count_49 ?_
    subst hQ9
    exact W.iret hx hb hr (fun t ht hW => ⟨_, rfl, hF, ht⟩) (fun q h => by cases h) dX4_count_52
  rw [if_neg c2] at hF
  by_cases c3 : w = 2
  · rw [if_pos c3] at hF
    refine lv_tableIn (off := 52) (tgt := 53) hx hb dX4_count_1 (by rw [c3]; decide) (by rw [c3]; decide) (by rw [c3]; rfl) (by decide) ?_
    refine lv_aload_n hx hb dX4_count_53 rfl (lv_at hl 0 rfl) ?_
    refine va_get (D := (dC, dI)) (ci := 4) (v := .ref (ad 12)) (C := RX4) (T := TX4) (N := 11) hx hb hts hinX4 hown hK hP 0 rfl rfl 8 (by decide) hfl48 (fun _ h9 => h9) rfl dX4_count_54 ?_
    refine va_getN (D := (dC, dI)) (ci := 0) (v := .int (nI (z 2))) (C := RX0) (T := TX0) (N := 5) hx hb hts hinX0 hown hK hP 12 rfl rfl 0 (by decide) hfl136 (fun _ h9 => h9) rfl dX4_count_57 ?_
    subst hQ9
    exact W.iret hx hb hr (fun t ht hW => ⟨_, rfl, hF, ht⟩) (fun q h => by cases h) dX4_count_60
  rw [if_neg c3] at hF
  by_cases c4 : w = 3
  · rw [if_pos c4] at hF
    refine lv_tableIn (off := 60) (tgt := 61) hx hb dX4_count_1 (by rw [c4]; decide) (by rw [c4]; decide) (by rw [c4]; rfl) (by decide) ?_
    refine lv_aload_n hx hb dX4_count_61 rfl (lv_at hl 0 rfl) ?_
    refine va_get (D := (dC, dI)) (ci := 4) (v := .ref (ad 17)) (C := RX4) (T := TX4) (N := 11) hx hb hts hinX4 hown hK hP 0 rfl rfl 9 (by decide) hfl55 (fun _ h9 => h9) rfl dX4_count_62 ?_
    refine va_getN (D := (dC, dI)) (ci := 3) (v := .int (nI (z 3))) (C := RX3) (T := TX3) (N := 4) hx hb hts hinX3 hown hK hP 17 rfl rfl 0 (by decide) hfl144 (fun _ h9 => h9) rfl dX4_count_65 ?_
    subst hQ9
    exact W.iret hx hb hr (fun t ht hW => ⟨_, rfl, hF, ht⟩) (fun q h => by cases h) dX4_count_68
  rw [if_neg c4] at hF
  by_cases c5 : w = 4
  · rw [if_pos c5] at hF
    refine lv_tableIn (off := 68) (tgt := 69) hx hb dX4_count_1 (by rw [c5]; decide) (by rw [c5]; decide) (by rw [c5]; rfl) (by decide) ?_
    refine lv_aload_n hx hb dX4_count_69 rfl (lv_at hl 0 rfl) ?_
    refine va_get (D := (dC, dI)) (ci := 4) (v := .int (v 0)) (C := RX4) (T := TX4) (N := 11) hx hb hts hinX4 hown hK hP 0 rfl rfl 1 (by decide) hfl13 (fun _ h9 => h9) rfl dX4_count_70 ?_
    subst hQ9
    exact W.iret hx hb hr (fun t ht hW => ⟨_, rfl, hF, ht⟩) (fun q h => by cases h) dX4_count_73
  rw [if_neg c5] at hF
  by_cases c6 : w = 5
  · rw [if_pos c6] at hF
    refine lv_tableIn (off := 73) (tgt := 74) hx hb dX4_count_1 (by rw [c6]; decide) (by rw [c6]; decide) (by rw [c6]; rfl) (by decide) ?_
    refine lv_aload_n hx hb dX4_count_74 rfl (lv_at hl 0 rfl) ?_
    refine va_get (D := (dC, dI)) (ci := 4) (v := .ref (ad 21)) (C := RX4) (T := TX4) (N := 11) hx hb hts hinX4 hown hK hP 0 rfl rfl 10 (by decide) hfl62 (fun _ h9 => h9) rfl dX4_count_75 ?_
    refine va_getN (D := (dC, dI)) (ci := 1) (v := .int (nI (z 4))) (C := RX1) (T := TX1) (N := 3) hx hb hts hinX1 hown hK hP 21 rfl rfl 1 (by decide) hfl197 (fun _ h9 => h9) rfl dX4_count_78 ?_
    subst hQ9
    exact W.iret hx hb hr (fun t ht hW => ⟨_, rfl, hF, ht⟩) (fun q h => by cases h) dX4_count_81
  rw [if_neg c6] at hF
  refine lv_tableOut (tgt := 82) hx hb dX4_count_1 (sw_out c1 c2 c3 c4 c5 c6) (by decide) ?_
  refine lv_iconst (v := (-1)) hx hb dX4_count_82 (by decide) ?_
  subst hQ9
  exact W.iret hx hb hr (fun t ht hW => ⟨_, rfl, hF, ht⟩) (fun q h => by cases h) dX4_count_83
def F_X4_look (z : Nat → Nat) (v : Nat → Int32) (f : Nat → Nat → Int32) (t day w : Int32) : Nat × Int32 × (Nat → Nat) × (Nat → Int32) × (Nat → Nat → Int32) :=
  if F_X4_isTrader z v f t = 0 then
    (3, 0, z, v, f)
  else
    if w < 0 then
      (3, 0, z, v, f)
    else
      if w < 7 then
        if F_X4_isDay day = 0 then
          (1, 0, z, v, f)
        else
          if w = 0 then
            if F_X4_isEnded z v f t day = 0 then
              (0, 0, z, v, f)
            else
              (0, 1, z, v, f)
          else
            if w = 1 then
              if F_X3_isOn z v f t day = 0 then
                (0, 0, z, v, f)
              else
                (0, 1, z, v, f)
            else
              if w = 2 then
                (0, F_J6_bitCount_0f7a4 (F_X4_groupsAmong z v f t (F_X4_aliveOn z v f day)), z, v, f)
              else
                if w = 3 then
                  (0, F_J6_bitCount_0f7a4 (F_X4_ownActs z v f t day), z, v, f)
                else
                  if w = 4 then
                    (0, f 2 t.toNatClampNeg, z, v, f)
                  else
                    if w = 5 then
                      (0, f 3 t.toNatClampNeg, z, v, f)
                    else
                      (0, F_X0_sizeOf z v f t day, z, v, f)
      else
        (3, 0, z, v, f)
set_option maxHeartbeats 4000000 in
set_option maxRecDepth 100000 in
theorem c_X4_look (l : Launch) (dC : Nat → ClassId) (dI : Nat → Nat → Nat) (ad : Nat → Nat) (cI cZ : ClassId) (z : Nat → Nat) (v : Nat → Int32) (f : Nat → Nat → Int32) (sz : Nat) (t day w : Int32) (hok : okX z v f) (hlt : l.stackTraces = false) : vx_Met l yX4_look wsX4_look ({ frames := 6, cells := 1, slots := 6, locals := 91 }) (va_Pc [.ref (ad 0), .int t, .int day, .int w] (fun U => U.heap.size = sz ∧ va_D (fun _ => True) (wX ad cI cZ z v f) ∧ kX dC dI ad cI cZ z v f U ∧ tW (va_A (wX ad cI cZ z v f) sz) U)) (va_Qi (fun (r : Int32) (_ : Unit) => (F_X4_look z v f t day w).1 = 0 ∧ r = (F_X4_look z v f t day w).2.1) (fun _ U9 => va_P (dC, dI) vwCl (wX ad cI cZ ((F_X4_look z v f t day w).2.2.1) ((F_X4_look z v f t day w).2.2.2.1) ((F_X4_look z v f t day w).2.2.2.2)) U9.heap) (va_A (wX ad cI cZ z v f) sz)) (vx_X (fun _ : Unit => True) (fun E _ U9 => E = exN (F_X4_look z v f t day w).1 ∧ ¬ (F_X4_look z v f t day w).1 = 0 ∧ va_P (dC, dI) vwCl (wX ad cI cZ z v f) U9.heap) (va_A (wX ad cI cZ z v f) sz)) 1 6 (va_A (wX ad cI cZ z v f) sz) := by
  refine vx_ofW (cc := cX4_look) (maxL := 4) (ret := (some .int)) (by decide) rfl ?_
  intro p e s m args below meth c s₁ B hml hexc hv
  obtain ⟨rfl, hsz, hD0, ⟨hP, hK, hN⟩, hT⟩ := hv
  have hx := B.exec
  have hb := B.bytes
  have hr := B.returns
  have hts := atoms_spec (ws := wsX4_look) B.pre
  have hown : s.vm.findClass RX4 = some m.cls := findClass_of_methodNamed B.named
  have hlocks := B.notSynchronized
  have hok9 := hok
  obtain ⟨hz0, hz1, hz2, hz3, hz4, hbz, hbs⟩ := hok9
  have hat173 : ∀ w ∈ vx_atS RX4 173 "java/lang/IndexOutOfBoundsException" ["java/lang/RuntimeException", "java/lang/Exception"], w.before _ s = true := vx_hat (B := badL) (fun w hw => hts w ((fun w h => List.mem_cons_of_mem _ (List.mem_append_left _ (List.mem_append_right _ h))) w hw)) at_bad173 (fun w hw => va_Nw.use (bad_tab (badL_all w hw)) (hT.2.2.2 w hw))
  have hat87 : ∀ w ∈ vx_atS RX4 87 "java/lang/IllegalArgumentException" ["java/lang/RuntimeException", "java/lang/Exception"], w.before _ s = true := vx_hat (B := badL) (fun w hw => hts w ((fun w h => List.mem_cons_of_mem _ (List.mem_append_right _ h)) w hw)) at_bad87 (fun w hw => va_Nw.use (bad_tab (badL_all w hw)) (hT.2.2.2 w hw))
  have hck169 := hts (.classLink RX4 169 "java/lang/IndexOutOfBoundsException") (List.mem_of_getElem? (i := 1) rfl)
  have hck83 := hts (.classLink RX4 83 "java/lang/IllegalArgumentException") (List.mem_of_getElem? (i := 3) rfl)
  have hei169 := hts (.initialized "java/lang/IndexOutOfBoundsException") (List.mem_of_getElem? (i := 2) rfl)
  have hei83 := hts (.initialized "java/lang/IllegalArgumentException") (List.mem_of_getElem? (i := 4) rfl)
  have hfl23 := hts (.fieldLink RX4 23 "TraderRights" "deputies" "[I") (List.mem_of_getElem? (i := 6) rfl)
  have hfl26 := hts (.fieldLink RX4 26 "TraderRights" "principals" "[I") (List.mem_of_getElem? (i := 7) rfl)
  have hfl48 := hts (.fieldLink RX4 48 "TraderRights" "mandates" "LTraderRights$Mandates;") (List.mem_of_getElem? (i := 8) rfl)
  have hfl55 := hts (.fieldLink RX4 55 "TraderRights" "suspensions" "LTraderRights$Suspensions;") (List.mem_of_getElem? (i := 5) rfl)
  have himX0_sizeOf := hts (.instanceMethod yX0_sizeOf) (List.mem_of_getElem? (i := 77) rfl)
  have himX3_isOn := hts (.instanceMethod yX3_isOn) (List.mem_of_getElem? (i := 24) rfl)
  have hinX4 : ∀ w ∈ u_ws RX4 TX4 11, w ∈ wsX4_look := fun w h => List.mem_cons_of_mem _ (List.mem_append_left _ (List.mem_append_left _ (List.mem_append_left _ (List.mem_append_left _ (List.mem_append_left _ (List.mem_append_right _ h))))))
  have hiniX0 := hts (.initialized RX0) (List.mem_of_getElem? (i := 78) rfl)
  have hiniX3 := hts (.initialized RX3) (List.mem_of_getElem? (i := 25) rfl)
  have hnw153 := hN (.methodLinkNest RX4 153 yX3_isOn "TraderRights") (by decide +kernel)
  have hnw194 := hN (.methodLinkNest RX4 194 yX0_sizeOf "TraderRights") (by decide +kernel)
  have hseX0_sizeOf := hts (.selects RX0 yX0_sizeOf yX0_sizeOf) (List.mem_of_getElem? (i := 79) rfl)
  have hseX3_isOn := hts (.selects RX3 yX3_isOn yX3_isOn) (List.mem_of_getElem? (i := 26) rfl)
  subst hsz
  have hD := hD0.self (sz := s.heap.size)
  generalize hAe : va_A (wX ad cI cZ z v f) s.heap.size = A at hD hT ⊢
  have hA : ∀ q : Nat, s.heap.size ≤ q → A q := fun q h => by rw [← hAe]; exact Or.inr h
  have hS : va_S A s.heap s.heap [] := va_S.rf
  have hl := lv_entry ([.ref (ad 0), .int t, .int day, .int w]) (n := 4) (Nat.le_of_ble_eq_true rfl)
  rw [lg_entry_eq]
  generalize (lg_sl ([.ref (ad 0), .int t, .int day, .int w]) ++ List.replicate (4 - (lg_sl ([.ref (ad 0), .int t, .int day, .int w])).length) Slot.unset).toArray = ls at hl ⊢
  have hl : lv_has ls 4 [(0, .ref (ad 0)), (1, .int t), (2, .int day), (3, .int w)] := hl
  generalize hF : F_X4_look z v f t day w = R9
  generalize hQ9 : vx_MQ below _ _ _ s 1 6 A = Q9
  rw [F_X4_look] at hF
  refine lv_aload_n hx hb dX4_look_0 rfl (lv_at hl 0 rfl) ?_
  refine lv_iload_n hx hb dX4_look_1 rfl (lv_at hl 1 rfl) ?_
  refine vp_callSi (W.runV (As := [.int t]) (rest := []) ⟨hx, hb, hml, hown, hts⟩ (c_X4_isTrader l dC dI ad cI cZ z v f t hok) (cwV 1 hts gX4_look_X4_isTrader rfl rfl rfl (by decide +kernel) ⟨Nat.le_of_ble_eq_true rfl, Nat.le_of_ble_eq_true rfl⟩) (preX (ci := 4) (q0 := 0) hP hK hN rfl rfl rfl) rfl rfl hl.1 rfl (lv_room (Nat.le_of_ble_eq_true rfl)) dX4_look_2 ⟨Nat.zero_le _, Nat.zero_le _⟩) (fun r1 h9 => ?_)
  have hr1 : r1 = F_X4_isTrader z v f t := h9
  try rw [← hr1] at hF
  refine lv_if_eq (tgt := 18) hx hb dX4_look_5 (by decide) (fun c2 => ?_) (fun c2 => ?_)
  · rw [if_pos c2] at hF
    have c2f : F_X4_isTrader z v f t = 0 := by rw [← hr1]; exact c2
    subst hF
    subst hQ9
    obtain ⟨sa9, hstr9⟩ := hT.2.2.1 (186, "no such trader or what") (by decide +kernel)
    exact vx_throwS (cls := "java/lang/IndexOutOfBoundsException") (names := ["java/lang/RuntimeException", "java/lang/Exception"]) hx hb hlt hown (by decide +kernel) (by decide +kernel) hck169 hei169 hstr9 hat173 ot173 hT.1 hT.2.1 hS (by rw [hml]; exact hl.1) dX4_look_18 dX4_look_21 dX4_look_22 dX4_look_24 dX4_look_27 (fun x h => (hexc x h).elim) (by decide) (by decide) (by decide) (by decide) hlocks (fun t9 hal hsz hkp => ⟨(), trivial, ⟨rfl, by show ¬ (3 : Nat) = 0; decide, hP.kept (fun k q hq => hkp _ (hP k q hq).lt)⟩, ⟨Nat.le_trans hS.1 hsz, fun q h1 h2 => (hkp q (Nat.lt_of_lt_of_le h1 hS.1)).trans (hS.2.1 q h1 h2)⟩⟩) hS.2.2 (by decide) (by decide)
  · rw [if_neg c2] at hF
    have c2f : ¬ F_X4_isTrader z v f t = 0 := by rw [← hr1]; exact c2
    refine lv_iload_n hx hb dX4_look_8 rfl (lv_at hl 3 rfl) ?_
    refine lv_if_lt (tgt := 18) hx hb dX4_look_9 (by decide) (fun c3 => ?_) (fun c3 => ?_)
    · rw [if_pos c3] at hF
      subst hF
      subst hQ9
      obtain ⟨sa9, hstr9⟩ := hT.2.2.1 (186, "no such trader or what") (by decide +kernel)
      exact vx_throwS (cls := "java/lang/IndexOutOfBoundsException") (names := ["java/lang/RuntimeException", "java/lang/Exception"]) hx hb hlt hown (by decide +kernel) (by decide +kernel) hck169 hei169 hstr9 hat173 ot173 hT.1 hT.2.1 hS (by rw [hml]; exact hl.1) dX4_look_18 dX4_look_21 dX4_look_22 dX4_look_24 dX4_look_27 (fun x h => (hexc x h).elim) (by decide) (by decide) (by decide) (by decide) hlocks (fun t9 hal hsz hkp => ⟨(), trivial, ⟨rfl, by show ¬ (3 : Nat) = 0; decide, hP.kept (fun k q hq => hkp _ (hP k q hq).lt)⟩, ⟨Nat.le_trans hS.1 hsz, fun q h1 h2 => (hkp q (Nat.lt_of_lt_of_le h1 hS.1)).trans (hS.2.1 q h1 h2)⟩⟩) hS.2.2 (by decide) (by decide)
    · rw [if_neg c3] at hF
      refine lv_iload_n hx hb dX4_look_12 rfl (lv_at hl 3 rfl) ?_
      refine lv_bipush (v := 7) hx hb dX4_look_13 (by decide) ?_
      refine lv_icmp_lt (tgt := 28) hx hb dX4_look_15 (by decide) (fun c4 => ?_) (fun c4 => ?_)
      · rw [if_pos c4] at hF
        refine lv_iload_n hx hb dX4_look_28 rfl (lv_at hl 2 rfl) ?_
        refine vp_callSi (W.runS (As := [.int day]) (rest := []) ⟨hx, hb, hml, hown, hts⟩ (c_X4_isDay l day) (cwS 1 hts gX4_look_X4_isDay rfl rfl rfl (by decide +kernel) ⟨Nat.le_of_ble_eq_true rfl, Nat.le_of_ble_eq_true rfl⟩) preT rfl rfl hl.1 rfl (lv_room (Nat.le_of_ble_eq_true rfl)) dX4_look_29 ⟨Nat.zero_le _, Nat.zero_le _⟩) (fun r5 h9 => ?_)
        have hr5 : r5 = F_X4_isDay day := h9
        try rw [← hr5] at hF
        refine lv_if_ne (tgt := 45) hx hb dX4_look_32 (by decide) (fun c6 => ?_) (fun c6 => ?_)
        · rw [if_neg c6] at hF
          have c6f : ¬ F_X4_isDay day = 0 := by rw [← hr5]; exact c6
          refine lv_iload_n hx hb dX4_look_45 rfl (lv_at hl 3 rfl) ?_
          by_cases c7 : w = 0
          · rw [if_pos c7] at hF
            refine lv_tableIn (off := 38) (tgt := 84) hx hb dX4_look_46 (by rw [c7]; decide) (by rw [c7]; decide) (by rw [c7]; rfl) (by decide) ?_
            refine lv_aload_n hx hb dX4_look_84 rfl (lv_at hl 0 rfl) ?_
            refine lv_iload_n hx hb dX4_look_85 rfl (lv_at hl 1 rfl) ?_
            refine lv_iload_n hx hb dX4_look_86 rfl (lv_at hl 2 rfl) ?_
            refine vp_callSi (W.runV (As := [.int t, .int day]) (rest := []) ⟨hx, hb, hml, hown, hts⟩ (c_X4_isEnded l dC dI ad cI cZ z v f t day hok (in_isTX hok c2f)) (cwV 2 hts gX4_look_X4_isEnded rfl rfl rfl (by decide +kernel) ⟨Nat.le_of_ble_eq_true rfl, Nat.le_of_ble_eq_true rfl⟩) (preX (ci := 4) (q0 := 0) hP hK hN rfl rfl rfl) rfl rfl hl.1 rfl (lv_room (Nat.le_of_ble_eq_true rfl)) dX4_look_87 ⟨Nat.zero_le _, Nat.zero_le _⟩) (fun r8 h9 => ?_)
            have hr8 : r8 = F_X4_isEnded z v f t day := h9
            try rw [← hr8] at hF
            refine lv_if_eq (tgt := 97) hx hb dX4_look_90 (by decide) (fun c9 => ?_) (fun c9 => ?_)
            · rw [if_pos c9] at hF
              have c9f : F_X4_isEnded z v f t day = 0 := by rw [← hr8]; exact c9
              refine lv_iconst (v := 0) hx hb dX4_look_97 (by decide) ?_
              subst hF
              subst hQ9
              refine vx_ret ?_
              refine W.widen (k := 1) (n := 6) (by decide) (by decide) ?_
              exact W.iret (v := 0) hx hb hr (fun t9 ht hW => ⟨⟨0, (), rfl, ⟨rfl, rfl⟩, by show va_P (dC, dI) vwCl _ t9.heap; rw [ht]; exact hP⟩, hS.F ht⟩) hS.2.2 dX4_look_98
            · rw [if_neg c9] at hF
              have c9f : ¬ F_X4_isEnded z v f t day = 0 := by rw [← hr8]; exact c9
              refine lv_iconst (v := 1) hx hb dX4_look_93 (by decide) ?_
              refine lv_goto (tgt := 98) hx hb dX4_look_94 (by decide) ?_
              subst hF
              subst hQ9
              refine vx_ret ?_
              refine W.widen (k := 1) (n := 6) (by decide) (by decide) ?_
              exact W.iret (v := 1) hx hb hr (fun t9 ht hW => ⟨⟨1, (), rfl, ⟨rfl, rfl⟩, by show va_P (dC, dI) vwCl _ t9.heap; rw [ht]; exact hP⟩, hS.F ht⟩) hS.2.2 dX4_look_98
          rw [if_neg c7] at hF
          by_cases c10 : w = 1
          · rw [if_pos c10] at hF
            refine lv_tableIn (off := 53) (tgt := 99) hx hb dX4_look_46 (by rw [c10]; decide) (by rw [c10]; decide) (by rw [c10]; rfl) (by decide) ?_
            refine lv_aload_n hx hb dX4_look_99 rfl (lv_at hl 0 rfl) ?_
            refine va_get (D := (dC, dI)) (ci := 4) (v := .ref (ad 17)) (C := RX4) (T := TX4) (N := 11) hx hb hts hinX4 hown hK hP 0 rfl rfl 9 (by decide) hfl55 (fun _ h9 => h9) rfl dX4_look_100 ?_
            refine lv_iload_n hx hb dX4_look_103 rfl (lv_at hl 1 rfl) ?_
            refine lv_iload_n hx hb dX4_look_104 rfl (lv_at hl 2 rfl) ?_
            refine vp_callSi (va_Run.run (va_runVN (As := [.int t, .int day]) (rest := []) ⟨hx, hb, hml, hown, hts⟩ (c_X3_isOn l dC dI ad cI cZ z v f t day hok) ⟨(va_cnB 2 hts gX4_look_X3_isOn_n153 rfl rfl rfl hnw153 hiniX3 (by decide +kernel) ⟨Nat.le_of_ble_eq_true rfl, Nat.le_of_ble_eq_true rfl⟩), himX3_isOn, hseX3_isOn⟩ (preX (ci := 3) (q0 := 17) hP hK hN rfl rfl rfl) rfl rfl hl.1 rfl (lv_room (Nat.le_of_ble_eq_true rfl)) dX4_look_105 ⟨Nat.zero_le _, Nat.zero_le _⟩)) (fun r11 h9 => ?_)
            have hr11 : r11 = F_X3_isOn z v f t day := h9
            try rw [← hr11] at hF
            refine lv_if_eq (tgt := 115) hx hb dX4_look_108 (by decide) (fun c12 => ?_) (fun c12 => ?_)
            · rw [if_pos c12] at hF
              have c12f : F_X3_isOn z v f t day = 0 := by rw [← hr11]; exact c12
              refine lv_iconst (v := 0) hx hb dX4_look_115 (by decide) ?_
              subst hF
              subst hQ9
              refine vx_ret ?_
              refine W.widen (k := 1) (n := 6) (by decide) (by decide) ?_
              exact W.iret (v := 0) hx hb hr (fun t9 ht hW => ⟨⟨0, (), rfl, ⟨rfl, rfl⟩, by show va_P (dC, dI) vwCl _ t9.heap; rw [ht]; exact hP⟩, hS.F ht⟩) hS.2.2 dX4_look_116
            · rw [if_neg c12] at hF
              have c12f : ¬ F_X3_isOn z v f t day = 0 := by rw [← hr11]; exact c12
              refine lv_iconst (v := 1) hx hb dX4_look_111 (by decide) ?_
              refine lv_goto (tgt := 116) hx hb dX4_look_112 (by decide) ?_
              subst hF
              subst hQ9
              refine vx_ret ?_
              refine W.widen (k := 1) (n := 6) (by decide) (by decide) ?_
              exact W.iret (v := 1) hx hb hr (fun t9 ht hW => ⟨⟨1, (), rfl, ⟨rfl, rfl⟩, by show va_P (dC, dI) vwCl _ t9.heap; rw [ht]; exact hP⟩, hS.F ht⟩) hS.2.2 dX4_look_116
          rw [if_neg c10] at hF
          by_cases c13 : w = 2
          · rw [if_pos c13] at hF
            refine lv_tableIn (off := 71) (tgt := 117) hx hb dX4_look_46 (by rw [c13]; decide) (by rw [c13]; decide) (by rw [c13]; rfl) (by decide) ?_
            refine lv_aload_n hx hb dX4_look_117 rfl (lv_at hl 0 rfl) ?_
            refine lv_iload_n hx hb dX4_look_118 rfl (lv_at hl 1 rfl) ?_
            refine lv_aload_n hx hb dX4_look_119 rfl (lv_at hl 0 rfl) ?_
            refine lv_iload_n hx hb dX4_look_120 rfl (lv_at hl 2 rfl) ?_
            refine vp_callSi (W.runV (As := [.int day]) (rest := [.int t, .ref (ad 0)]) ⟨hx, hb, hml, hown, hts⟩ (c_X4_aliveOn l dC dI ad cI cZ z v f day hok) (cwV 1 hts gX4_look_X4_aliveOn rfl rfl rfl (by decide +kernel) ⟨Nat.le_of_ble_eq_true rfl, Nat.le_of_ble_eq_true rfl⟩) (preX (ci := 4) (q0 := 0) hP hK hN rfl rfl rfl) rfl rfl hl.1 rfl (lv_room (Nat.le_of_ble_eq_true rfl)) dX4_look_121 ⟨Nat.zero_le _, Nat.zero_le _⟩) (fun r14 h9 => ?_)
            have hr14 : r14 = F_X4_aliveOn z v f day := h9
            try rw [← hr14] at hF
            refine vp_callSi (W.runV (As := [.int t, .int r14]) (rest := []) ⟨hx, hb, hml, hown, hts⟩ (c_X4_groupsAmong l dC dI ad cI cZ z v f t r14 hok (in_isTX hok c2f)) (cwV 2 hts gX4_look_X4_groupsAmong rfl rfl rfl (by decide +kernel) ⟨Nat.le_of_ble_eq_true rfl, Nat.le_of_ble_eq_true rfl⟩) (preX (ci := 4) (q0 := 0) hP hK hN rfl rfl rfl) rfl rfl hl.1 rfl (lv_room (Nat.le_of_ble_eq_true rfl)) dX4_look_124 ⟨Nat.zero_le _, Nat.zero_le _⟩) (fun r15 h9 => ?_)
            have hr15 : r15 = F_X4_groupsAmong z v f t r14 := h9
            try rw [← hr15] at hF
            refine vp_callSi (W.runS (As := [.int r15]) (rest := []) ⟨hx, hb, hml, hown, hts⟩ (c_J6_bitCount_0f7a4 l r15) (va_cwS 1 hts gX4_look_J6_bitCount_0f7a4 rfl rfl rfl (by decide +kernel) ⟨Nat.le_of_ble_eq_true rfl, Nat.le_of_ble_eq_true rfl⟩) preT rfl rfl hl.1 rfl (lv_room (Nat.le_of_ble_eq_true rfl)) dX4_look_127 ⟨Nat.zero_le _, Nat.zero_le _⟩) (fun r16 h9 => ?_)
            have hr16 : r16 = F_J6_bitCount_0f7a4 r15 := h9
            try rw [← hr16] at hF
            subst hF
            subst hQ9
            refine vx_ret ?_
            refine W.widen (k := 1) (n := 6) (by decide) (by decide) ?_
            exact W.iret (v := r16) hx hb hr (fun t9 ht hW => ⟨⟨r16, (), rfl, ⟨rfl, rfl⟩, by show va_P (dC, dI) vwCl _ t9.heap; rw [ht]; exact hP⟩, hS.F ht⟩) hS.2.2 dX4_look_130
          rw [if_neg c13] at hF
          by_cases c17 : w = 3
          · rw [if_pos c17] at hF
            refine lv_tableIn (off := 85) (tgt := 131) hx hb dX4_look_46 (by rw [c17]; decide) (by rw [c17]; decide) (by rw [c17]; rfl) (by decide) ?_
            refine lv_aload_n hx hb dX4_look_131 rfl (lv_at hl 0 rfl) ?_
            refine lv_iload_n hx hb dX4_look_132 rfl (lv_at hl 1 rfl) ?_
            refine lv_iload_n hx hb dX4_look_133 rfl (lv_at hl 2 rfl) ?_
            refine vp_callSi (W.runV (As := [.int t, .int day]) (rest := []) ⟨hx, hb, hml, hown, hts⟩ (c_X4_ownActs l dC dI ad cI cZ z v f t day hok (in_isTX hok c2f)) (cwV 2 hts gX4_look_X4_ownActs rfl rfl rfl (by decide +kernel) ⟨Nat.le_of_ble_eq_true rfl, Nat.le_of_ble_eq_true rfl⟩) (preX (ci := 4) (q0 := 0) hP hK hN rfl rfl rfl) rfl rfl hl.1 rfl (lv_room (Nat.le_of_ble_eq_true rfl)) dX4_look_134 ⟨Nat.zero_le _, Nat.zero_le _⟩) (fun r18 h9 => ?_)
            have hr18 : r18 = F_X4_ownActs z v f t day := h9
            try rw [← hr18] at hF
            refine vp_callSi (W.runS (As := [.int r18]) (rest := []) ⟨hx, hb, hml, hown, hts⟩ (c_J6_bitCount_0f7a4 l r18) (va_cwS 1 hts gX4_look_J6_bitCount_0f7a4 rfl rfl rfl (by decide +kernel) ⟨Nat.le_of_ble_eq_true rfl, Nat.le_of_ble_eq_true rfl⟩) preT rfl rfl hl.1 rfl (lv_room (Nat.le_of_ble_eq_true rfl)) dX4_look_137 ⟨Nat.zero_le _, Nat.zero_le _⟩) (fun r19 h9 => ?_)
            have hr19 : r19 = F_J6_bitCount_0f7a4 r18 := h9
            try rw [← hr19] at hF
            subst hF
            subst hQ9
            refine vx_ret ?_
            refine W.widen (k := 1) (n := 6) (by decide) (by decide) ?_
            exact W.iret (v := r19) hx hb hr (fun t9 ht hW => ⟨⟨r19, (), rfl, ⟨rfl, rfl⟩, by show va_P (dC, dI) vwCl _ t9.heap; rw [ht]; exact hP⟩, hS.F ht⟩) hS.2.2 dX4_look_140
          rw [if_neg c17] at hF
          by_cases c20 : w = 4
          · rw [if_pos c20] at hF
            refine lv_tableIn (off := 95) (tgt := 141) hx hb dX4_look_46 (by rw [c20]; decide) (by rw [c20]; decide) (by rw [c20]; rfl) (by decide) ?_
            refine lv_aload_n hx hb dX4_look_141 rfl (lv_at hl 0 rfl) ?_
            refine va_get (D := (dC, dI)) (ci := 4) (v := .ref (ad 3)) (C := RX4) (T := TX4) (N := 11) hx hb hts hinX4 hown hK hP 0 rfl rfl 4 (by decide) hfl23 (fun _ h9 => h9) rfl dX4_look_142 ?_
            refine lv_iload_n hx hb dX4_look_145 rfl (lv_at hl 1 rfl) ?_
            refine va_iald hx hb hK hP 3 0 rfl rfl (in_isTX hok c2f) dX4_look_146 ?_
            subst hF
            subst hQ9
            refine vx_ret ?_
            refine W.widen (k := 1) (n := 6) (by decide) (by decide) ?_
            exact W.iret (v := f 2 t.toNatClampNeg) hx hb hr (fun t9 ht hW => ⟨⟨(f 2 t.toNatClampNeg), (), rfl, ⟨rfl, rfl⟩, by show va_P (dC, dI) vwCl _ t9.heap; rw [ht]; exact hP⟩, hS.F ht⟩) hS.2.2 dX4_look_147
          rw [if_neg c20] at hF
          by_cases c21 : w = 5
          · rw [if_pos c21] at hF
            refine lv_tableIn (off := 102) (tgt := 148) hx hb dX4_look_46 (by rw [c21]; decide) (by rw [c21]; decide) (by rw [c21]; rfl) (by decide) ?_
            refine lv_aload_n hx hb dX4_look_148 rfl (lv_at hl 0 rfl) ?_
            refine va_get (D := (dC, dI)) (ci := 4) (v := .ref (ad 4)) (C := RX4) (T := TX4) (N := 11) hx hb hts hinX4 hown hK hP 0 rfl rfl 5 (by decide) hfl26 (fun _ h9 => h9) rfl dX4_look_149 ?_
            refine lv_iload_n hx hb dX4_look_152 rfl (lv_at hl 1 rfl) ?_
            refine va_iald hx hb hK hP 4 0 rfl rfl (in_isTX hok c2f) dX4_look_153 ?_
            subst hF
            subst hQ9
            refine vx_ret ?_
            refine W.widen (k := 1) (n := 6) (by decide) (by decide) ?_
            exact W.iret (v := f 3 t.toNatClampNeg) hx hb hr (fun t9 ht hW => ⟨⟨(f 3 t.toNatClampNeg), (), rfl, ⟨rfl, rfl⟩, by show va_P (dC, dI) vwCl _ t9.heap; rw [ht]; exact hP⟩, hS.F ht⟩) hS.2.2 dX4_look_154
          rw [if_neg c21] at hF
          refine lv_tableOut (tgt := 155) hx hb dX4_look_46 (sw_out c7 c10 c13 c17 c20 c21) (by decide) ?_
          refine lv_aload_n hx hb dX4_look_155 rfl (lv_at hl 0 rfl) ?_
          refine va_get (D := (dC, dI)) (ci := 4) (v := .ref (ad 12)) (C := RX4) (T := TX4) (N := 11) hx hb hts hinX4 hown hK hP 0 rfl rfl 8 (by decide) hfl48 (fun _ h9 => h9) rfl dX4_look_156 ?_
          refine lv_iload_n hx hb dX4_look_159 rfl (lv_at hl 1 rfl) ?_
          refine lv_iload_n hx hb dX4_look_160 rfl (lv_at hl 2 rfl) ?_
          refine vp_callSi (va_Run.run (va_runVN (As := [.int t, .int day]) (rest := []) ⟨hx, hb, hml, hown, hts⟩ (c_X0_sizeOf l dC dI ad cI cZ z v f t day hok) ⟨(va_cnB 2 hts gX4_look_X0_sizeOf_n194 rfl rfl rfl hnw194 hiniX0 (by decide +kernel) ⟨Nat.le_of_ble_eq_true rfl, Nat.le_of_ble_eq_true rfl⟩), himX0_sizeOf, hseX0_sizeOf⟩ (preX (ci := 0) (q0 := 12) hP hK hN rfl rfl rfl) rfl rfl hl.1 rfl (lv_room (Nat.le_of_ble_eq_true rfl)) dX4_look_161 ⟨Nat.zero_le _, Nat.zero_le _⟩)) (fun r22 h9 => ?_)
          have hr22 : r22 = F_X0_sizeOf z v f t day := h9
          try rw [← hr22] at hF
          subst hF
          subst hQ9
          refine vx_ret ?_
          refine W.widen (k := 1) (n := 6) (by decide) (by decide) ?_
          exact W.iret (v := r22) hx hb hr (fun t9 ht hW => ⟨⟨r22, (), rfl, ⟨rfl, rfl⟩, by show va_P (dC, dI) vwCl _ t9.heap; rw [ht]; exact hP⟩, hS.F ht⟩) hS.2.2 dX4_look_164
        · rw [if_pos c6] at hF
          have c6f : F_X4_isDay day = 0 := by rw [← hr5]; exact c6
          subst hF
          subst hQ9
          obtain ⟨sa9, hstr9⟩ := hT.2.2.1 (134, "no such day") (by decide +kernel)
          exact vx_throwS (cls := "java/lang/IllegalArgumentException") (names := ["java/lang/RuntimeException", "java/lang/Exception"]) hx hb hlt hown (by decide +kernel) (by decide +kernel) hck83 hei83 hstr9 hat87 ot87 hT.1 hT.2.1 hS (by rw [hml]; exact hl.1) dX4_look_35 dX4_look_38 dX4_look_39 dX4_look_41 dX4_look_44 (fun x h => (hexc x h).elim) (by decide) (by decide) (by decide) (by decide) hlocks (fun t9 hal hsz hkp => ⟨(), trivial, ⟨rfl, by show ¬ (1 : Nat) = 0; decide, hP.kept (fun k q hq => hkp _ (hP k q hq).lt)⟩, ⟨Nat.le_trans hS.1 hsz, fun q h1 h2 => (hkp q (Nat.lt_of_lt_of_le h1 hS.1)).trans (hS.2.1 q h1 h2)⟩⟩) hS.2.2 (by decide) (by decide)
      · rw [if_neg c4] at hF
        subst hF
        subst hQ9
        obtain ⟨sa9, hstr9⟩ := hT.2.2.1 (186, "no such trader or what") (by decide +kernel)
        exact vx_throwS (cls := "java/lang/IndexOutOfBoundsException") (names := ["java/lang/RuntimeException", "java/lang/Exception"]) hx hb hlt hown (by decide +kernel) (by decide +kernel) hck169 hei169 hstr9 hat173 ot173 hT.1 hT.2.1 hS (by rw [hml]; exact hl.1) dX4_look_18 dX4_look_21 dX4_look_22 dX4_look_24 dX4_look_27 (fun x h => (hexc x h).elim) (by decide) (by decide) (by decide) (by decide) hlocks (fun t9 hal hsz hkp => ⟨(), trivial, ⟨rfl, by show ¬ (3 : Nat) = 0; decide, hP.kept (fun k q hq => hkp _ (hP k q hq).lt)⟩, ⟨Nat.le_trans hS.1 hsz, fun q h1 h2 => (hkp q (Nat.lt_of_lt_of_le h1 hS.1)).trans (hS.2.1 q h1 h2)⟩⟩) hS.2.2 (by decide) (by decide)
