set_option maxHeartbeats 4000000 in
set_option maxRecDepth 100000 in
theorem c_X4_init (l : Launch) (g : dkG) (z : Nat) {t : Nat} (ht : dkT t) : Met l yX4_init wsX4_init { frames := 1, cells := 10, slots := 57, locals := 12 } (va_Pc [.ref (z + t)] (fun U => dkPre g z t (.inr (4, [.int 0, .int 0, .int 0, .int 0, .int 0, .null, .null, .null, .null, .null, .null, .int 0, .null, .null, .null, .int 0, .int 0, .int 0, .null])) U.heap ∧ dkK g U)) (va_Qv (S := Unit) (fun _ => True) (fun _ t9 => dkPost g z t (t + 11) t9.heap) (dkA (z + t))) 10 57 (dkA (z + t)) := by
  refine Met.ofW (cc := cX4_init) (maxL := 1) (ret := none) (by decide) rfl ?_
  intro p e s m args below meth c s₁ B hml hv
  obtain ⟨ha, ⟨h0, hz⟩, hK⟩ := hv
  have hx := B.exec
  have hb := B.bytes
  have hr := B.returns
  have hts := atoms_spec (ws := wsX4_init) B.pre
  have hown : s.vm.findClass RX4 = some m.cls := findClass_of_methodNamed B.named
  have hlocks := B.notSynchronized
  have hin : meth.name = "<init>" := (name_of_methodNamed B.named B.method).1
  have hS : va_S (dkA (z + t)) s.heap s.heap [] := va_S.rf
  have hl := lv_entry ([.ref (z + t)]) (n := 1) (Nat.le_of_ble_eq_true rfl)
  have hgo : entryFrame m args 1 = entryFrame m ([.ref (z + t)] : List Value).toArray 1 := by rw [ha]
  rw [hgo, lg_entry_eq]
  generalize (lg_sl ([.ref (z + t)]) ++ List.replicate (1 - (lg_sl ([.ref (z + t)])).length) Slot.unset).toArray = ls at hl ⊢
  have hl : lv_has ls 1 [(0, .ref (z + t))] := hl
  obtain ⟨H, hH⟩ : ∃ H, H = s.heap := ⟨_, rfl⟩
  have h0 : va_at g.1 vwCl (z + t, .inr (4, [.int 0, .int 0, .int 0, .int 0, .int 0, .null, .null, .null, .null, .null, .null, .int 0, .null, .null, .null, .int 0, .int 0, .int 0, .null])) H := by rw [hH]; exact h0
  have hz : H.size = z + (t + 1) := by rw [hH]; exact hz
  have hz0 : H.size = z + (t + 1) := hz
  have hS : va_S (dkA (z + t)) s.heap H [] := by rw [hH]; exact va_S.rf
  refine dk_heap hH ?_
  refine lv_aload_n hx hb dX4_init_0 rfl (lv_at hl 0 rfl) ?_
  refine W.objInit hx hb hown (hts (.methodLink RX4 3 objectInit) (List.mem_of_getElem? (i := 1) rfl)) (hts (.instanceMethod objectInit) (List.mem_of_getElem? (i := 2) rfl)) (hts _ (List.mem_of_getElem? (i := 3) rfl)) rfl (by rw [hml]; exact hl.1) rfl dX4_init_1 (Nat.le_of_ble_eq_true rfl) (Nat.le_of_ble_eq_true rfl) ?_
  refine W.eq (g2 := F0 m 4 ls []) rfl ?_
  refine lv_aload_n hx hb dX4_init_4 rfl (lv_at hl 0 rfl) ?_
  refine lv_iconst (v := 5) hx hb dX4_init_5 (by decide) ?_
  refine dk_newa (h := z + (t + 1)) (N := 5) hx hb (hts (.arrayClass .int) (List.mem_of_getElem? (i := 4) rfl)) hK hS hz (by decide) rfl (by decide) (Nat.le_of_ble_eq_true rfl) (Nat.le_of_ble_eq_true rfl) dX4_init_6 (fun H h1 ho hz hS => ?_)
  have h0 := dk_kLt h0 ho (by omega)
  have hz : H.size = z + (t + 2) := hz
  refine dk_putF0 (a := z + t) (ci := 4) (C := RX4) (T := TX4) (N := 19) (v := .ref (z + (t + 1))) (ty := .array .int) hx hb hts iX4_init_4 tyX4 tyX4_ok nmX4 hown hK h0 hS (Nat.le_refl _) rfl 5 (by decide) (hts (.fieldLink RX4 9 "DogKings$Town" "personHome" "[I") (List.mem_of_getElem? (i := 5) rfl)) rfl hin rfl (by decide +kernel) rfl rfl (Nat.le_of_ble_eq_true rfl) dX4_init_8 (fun H L h0 ho hz1 hS => ?_)
  have h0 : va_at g.1 vwCl (z + t, .inr (4, [.int 0, .int 0, .int 0, .int 0, .int 0, .ref (z + (t + 1)), .null, .null, .null, .null, .null, .int 0, .null, .null, .null, .int 0, .int 0, .int 0, .null])) H := h0
  have h1 := dk_kNe h1 ho (by omega)
  have hz : H.size = z + (t + 2) := hz1.trans hz
  refine lv_aload_n hx hb dX4_init_11 rfl (lv_at hl 0 rfl) ?_
  refine lv_iconst (v := 5) hx hb dX4_init_12 (by decide) ?_
  refine dk_newa (h := z + (t + 2)) (N := 5) hx hb (hts (.arrayClass .int) (List.mem_of_getElem? (i := 4) rfl)) hK hS hz (by decide) rfl (by decide) (Nat.le_of_ble_eq_true rfl) (Nat.le_of_ble_eq_true rfl) dX4_init_13 (fun H h2 ho hz hS => ?_)
  have h0 := dk_kLt h0 ho (by omega)
  have h1 := dk_kLt h1 ho (by omega)
  have hz : H.size = z + (t + 3) := hz
  refine dk_putF0 (a := z + t) (ci := 4) (C := RX4) (T := TX4) (N := 19) (v := .ref (z + (t + 2))) (ty := .array .int) hx hb hts iX4_init_4 tyX4 tyX4_ok nmX4 hown hK h0 hS (Nat.le_refl _) rfl 6 (by decide) (hts (.fieldLink RX4 15 "DogKings$Town" "smell" "[I") (List.mem_of_getElem? (i := 6) rfl)) rfl hin rfl (by decide +kernel) rfl rfl (Nat.le_of_ble_eq_true rfl) dX4_init_15 (fun H L h0 ho hz1 hS => ?_)
  have h0 : va_at g.1 vwCl (z + t, .inr (4, [.int 0, .int 0, .int 0, .int 0, .int 0, .ref (z + (t + 1)), .ref (z + (t + 2)), .null, .null, .null, .null, .int 0, .null, .null, .null, .int 0, .int 0, .int 0, .null])) H := h0
  have h1 := dk_kNe h1 ho (by omega)
  have h2 := dk_kNe h2 ho (by omega)
  have hz : H.size = z + (t + 3) := hz1.trans hz
  refine lv_aload_n hx hb dX4_init_18 rfl (lv_at hl 0 rfl) ?_
  refine lv_iconst (v := 5) hx hb dX4_init_19 (by decide) ?_
  refine dk_newa (h := z + (t + 3)) (N := 5) hx hb (hts (.arrayClass .int) (List.mem_of_getElem? (i := 4) rfl)) hK hS hz (by decide) rfl (by decide) (Nat.le_of_ble_eq_true rfl) (Nat.le_of_ble_eq_true rfl) dX4_init_20 (fun H h3 ho hz hS => ?_)
  have h0 := dk_kLt h0 ho (by omega)
  have h1 := dk_kLt h1 ho (by omega)
  have h2 := dk_kLt h2 ho (by omega)
  have hz : H.size = z + (t + 4) := hz
  refine dk_putF0 (a := z + t) (ci := 4) (C := RX4) (T := TX4) (N := 19) (v := .ref (z + (t + 3))) (ty := .array .int) hx hb hts iX4_init_4 tyX4 tyX4_ok nmX4 hown hK h0 hS (Nat.le_refl _) rfl 7 (by decide) (hts (.fieldLink RX4 18 "DogKings$Town" "personAt" "[I") (List.mem_of_getElem? (i := 7) rfl)) rfl hin rfl (by decide +kernel) rfl rfl (Nat.le_of_ble_eq_true rfl) dX4_init_22 (fun H L h0 ho hz1 hS => ?_)
  have h0 : va_at g.1 vwCl (z + t, .inr (4, [.int 0, .int 0, .int 0, .int 0, .int 0, .ref (z + (t + 1)), .ref (z + (t + 2)), .ref (z + (t + 3)), .null, .null, .null, .int 0, .null, .null, .null, .int 0, .int 0, .int 0, .null])) H := h0
  have h1 := dk_kNe h1 ho (by omega)
  have h2 := dk_kNe h2 ho (by omega)
  have h3 := dk_kNe h3 ho (by omega)
  have hz : H.size = z + (t + 4) := hz1.trans hz
  refine lv_aload_n hx hb dX4_init_25 rfl (lv_at hl 0 rfl) ?_
  refine lv_iconst (v := 5) hx hb dX4_init_26 (by decide) ?_
  refine dk_newa (h := z + (t + 4)) (N := 5) hx hb (hts (.arrayClass .int) (List.mem_of_getElem? (i := 4) rfl)) hK hS hz (by decide) rfl (by decide) (Nat.le_of_ble_eq_true rfl) (Nat.le_of_ble_eq_true rfl) dX4_init_27 (fun H h4 ho hz hS => ?_)
  have h0 := dk_kLt h0 ho (by omega)
  have h1 := dk_kLt h1 ho (by omega)
  have h2 := dk_kLt h2 ho (by omega)
  have h3 := dk_kLt h3 ho (by omega)
  have hz : H.size = z + (t + 5) := hz
  refine dk_putF0 (a := z + t) (ci := 4) (C := RX4) (T := TX4) (N := 19) (v := .ref (z + (t + 4))) (ty := .array .int) hx hb hts iX4_init_4 tyX4 tyX4_ok nmX4 hown hK h0 hS (Nat.le_refl _) rfl 8 (by decide) (hts (.fieldLink RX4 21 "DogKings$Town" "bones" "[I") (List.mem_of_getElem? (i := 8) rfl)) rfl hin rfl (by decide +kernel) rfl rfl (Nat.le_of_ble_eq_true rfl) dX4_init_29 (fun H L h0 ho hz1 hS => ?_)
  have h0 : va_at g.1 vwCl (z + t, .inr (4, [.int 0, .int 0, .int 0, .int 0, .int 0, .ref (z + (t + 1)), .ref (z + (t + 2)), .ref (z + (t + 3)), .ref (z + (t + 4)), .null, .null, .int 0, .null, .null, .null, .int 0, .int 0, .int 0, .null])) H := h0
  have h1 := dk_kNe h1 ho (by omega)
  have h2 := dk_kNe h2 ho (by omega)
  have h3 := dk_kNe h3 ho (by omega)
  have h4 := dk_kNe h4 ho (by omega)
  have hz : H.size = z + (t + 5) := hz1.trans hz
  refine lv_aload_n hx hb dX4_init_32 rfl (lv_at hl 0 rfl) ?_
  refine lv_iconst (v := 5) hx hb dX4_init_33 (by decide) ?_
  refine dk_newa (h := z + (t + 5)) (N := 5) hx hb (hts (.arrayClass .int) (List.mem_of_getElem? (i := 4) rfl)) hK hS hz (by decide) rfl (by decide) (Nat.le_of_ble_eq_true rfl) (Nat.le_of_ble_eq_true rfl) dX4_init_34 (fun H h5 ho hz hS => ?_)
  have h0 := dk_kLt h0 ho (by omega)
  have h1 := dk_kLt h1 ho (by omega)
  have h2 := dk_kLt h2 ho (by omega)
  have h3 := dk_kLt h3 ho (by omega)
  have h4 := dk_kLt h4 ho (by omega)
  have hz : H.size = z + (t + 6) := hz
  refine dk_putF0 (a := z + t) (ci := 4) (C := RX4) (T := TX4) (N := 19) (v := .ref (z + (t + 5))) (ty := .array .int) hx hb hts iX4_init_4 tyX4 tyX4_ok nmX4 hown hK h0 hS (Nat.le_refl _) rfl 9 (by decide) (hts (.fieldLink RX4 24 "DogKings$Town" "gait" "[I") (List.mem_of_getElem? (i := 9) rfl)) rfl hin rfl (by decide +kernel) rfl rfl (Nat.le_of_ble_eq_true rfl) dX4_init_36 (fun H L h0 ho hz1 hS => ?_)
  have h0 : va_at g.1 vwCl (z + t, .inr (4, [.int 0, .int 0, .int 0, .int 0, .int 0, .ref (z + (t + 1)), .ref (z + (t + 2)), .ref (z + (t + 3)), .ref (z + (t + 4)), .ref (z + (t + 5)), .null, .int 0, .null, .null, .null, .int 0, .int 0, .int 0, .null])) H := h0
  have h1 := dk_kNe h1 ho (by omega)
  have h2 := dk_kNe h2 ho (by omega)
  have h3 := dk_kNe h3 ho (by omega)
  have h4 := dk_kNe h4 ho (by omega)
  have h5 := dk_kNe h5 ho (by omega)
  have hz : H.size = z + (t + 6) := hz1.trans hz
  refine lv_aload_n hx hb dX4_init_39 rfl (lv_at hl 0 rfl) ?_
  refine lv_iconst (v := 5) hx hb dX4_init_40 (by decide) ?_
  refine dk_newa (h := z + (t + 6)) (N := 5) hx hb (hts (.arrayClass .int) (List.mem_of_getElem? (i := 4) rfl)) hK hS hz (by decide) rfl (by decide) (Nat.le_of_ble_eq_true rfl) (Nat.le_of_ble_eq_true rfl) dX4_init_41 (fun H h6 ho hz hS => ?_)
  have h0 := dk_kLt h0 ho (by omega)
  have h1 := dk_kLt h1 ho (by omega)
  have h2 := dk_kLt h2 ho (by omega)
  have h3 := dk_kLt h3 ho (by omega)
  have h4 := dk_kLt h4 ho (by omega)
  have h5 := dk_kLt h5 ho (by omega)
  have hz : H.size = z + (t + 7) := hz
  refine dk_putF0 (a := z + t) (ci := 4) (C := RX4) (T := TX4) (N := 19) (v := .ref (z + (t + 6))) (ty := .array .int) hx hb hts iX4_init_4 tyX4 tyX4_ok nmX4 hown hK h0 hS (Nat.le_refl _) rfl 10 (by decide) (hts (.fieldLink RX4 27 "DogKings$Town" "reigns" "[I") (List.mem_of_getElem? (i := 10) rfl)) rfl hin rfl (by decide +kernel) rfl rfl (Nat.le_of_ble_eq_true rfl) dX4_init_43 (fun H L h0 ho hz1 hS => ?_)
  have h0 : va_at g.1 vwCl (z + t, .inr (4, [.int 0, .int 0, .int 0, .int 0, .int 0, .ref (z + (t + 1)), .ref (z + (t + 2)), .ref (z + (t + 3)), .ref (z + (t + 4)), .ref (z + (t + 5)), .ref (z + (t + 6)), .int 0, .null, .null, .null, .int 0, .int 0, .int 0, .null])) H := h0
  have h1 := dk_kNe h1 ho (by omega)
  have h2 := dk_kNe h2 ho (by omega)
  have h3 := dk_kNe h3 ho (by omega)
  have h4 := dk_kNe h4 ho (by omega)
  have h5 := dk_kNe h5 ho (by omega)
  have h6 := dk_kNe h6 ho (by omega)
  have hz : H.size = z + (t + 7) := hz1.trans hz
  refine lv_aload_n hx hb dX4_init_46 rfl (lv_at hl 0 rfl) ?_
  refine lv_bipush (v := 6) hx hb dX4_init_47 (by decide) ?_
  refine dk_newa (h := z + (t + 7)) (N := 6) hx hb (hts (.arrayClass .int) (List.mem_of_getElem? (i := 4) rfl)) hK hS hz (by decide) rfl (by decide) (Nat.le_of_ble_eq_true rfl) (Nat.le_of_ble_eq_true rfl) dX4_init_49 (fun H h7 ho hz hS => ?_)
  have h0 := dk_kLt h0 ho (by omega)
  have h1 := dk_kLt h1 ho (by omega)
  have h2 := dk_kLt h2 ho (by omega)
  have h3 := dk_kLt h3 ho (by omega)
  have h4 := dk_kLt h4 ho (by omega)
  have h5 := dk_kLt h5 ho (by omega)
  have h6 := dk_kLt h6 ho (by omega)
  have hz : H.size = z + (t + 8) := hz
  refine dk_putF0 (a := z + t) (ci := 4) (C := RX4) (T := TX4) (N := 19) (v := .ref (z + (t + 7))) (ty := .array .int) hx hb hts iX4_init_4 tyX4 tyX4_ok nmX4 hown hK h0 hS (Nat.le_refl _) rfl 12 (by decide) (hts (.fieldLink RX4 30 "DogKings$Town" "sort" "[I") (List.mem_of_getElem? (i := 11) rfl)) rfl hin rfl (by decide +kernel) rfl rfl (Nat.le_of_ble_eq_true rfl) dX4_init_51 (fun H L h0 ho hz1 hS => ?_)
  have h0 : va_at g.1 vwCl (z + t, .inr (4, [.int 0, .int 0, .int 0, .int 0, .int 0, .ref (z + (t + 1)), .ref (z + (t + 2)), .ref (z + (t + 3)), .ref (z + (t + 4)), .ref (z + (t + 5)), .ref (z + (t + 6)), .int 0, .ref (z + (t + 7)), .null, .null, .int 0, .int 0, .int 0, .null])) H := h0
  have h1 := dk_kNe h1 ho (by omega)
  have h2 := dk_kNe h2 ho (by omega)
  have h3 := dk_kNe h3 ho (by omega)
  have h4 := dk_kNe h4 ho (by omega)
  have h5 := dk_kNe h5 ho (by omega)
  have h6 := dk_kNe h6 ho (by omega)
  have h7 := dk_kNe h7 ho (by omega)
  have hz : H.size = z + (t + 8) := hz1.trans hz
  refine lv_aload_n hx hb dX4_init_54 rfl (lv_at hl 0 rfl) ?_
  refine lv_bipush (v := 6) hx hb dX4_init_55 (by decide) ?_
  refine dk_newa (h := z + (t + 8)) (N := 6) hx hb (hts (.arrayClass .int) (List.mem_of_getElem? (i := 4) rfl)) hK hS hz (by decide) rfl (by decide) (Nat.le_of_ble_eq_true rfl) (Nat.le_of_ble_eq_true rfl) dX4_init_57 (fun H h8 ho hz hS => ?_)
  have h0 := dk_kLt h0 ho (by omega)
  have h1 := dk_kLt h1 ho (by omega)
  have h2 := dk_kLt h2 ho (by omega)
  have h3 := dk_kLt h3 ho (by omega)
  have h4 := dk_kLt h4 ho (by omega)
  have h5 := dk_kLt h5 ho (by omega)
  have h6 := dk_kLt h6 ho (by omega)
  have h7 := dk_kLt h7 ho (by omega)
  have hz : H.size = z + (t + 9) := hz
  refine dk_putF0 (a := z + t) (ci := 4) (C := RX4) (T := TX4) (N := 19) (v := .ref (z + (t + 8))) (ty := .array .int) hx hb hts iX4_init_4 tyX4 tyX4_ok nmX4 hown hK h0 hS (Nat.le_refl _) rfl 13 (by decide) (hts (.fieldLink RX4 33 "DogKings$Town" "dogHome" "[I") (List.mem_of_getElem? (i := 12) rfl)) rfl hin rfl (by decide +kernel) rfl rfl (Nat.le_of_ble_eq_true rfl) dX4_init_59 (fun H L h0 ho hz1 hS => ?_)
  have h0 : va_at g.1 vwCl (z + t, .inr (4, [.int 0, .int 0, .int 0, .int 0, .int 0, .ref (z + (t + 1)), .ref (z + (t + 2)), .ref (z + (t + 3)), .ref (z + (t + 4)), .ref (z + (t + 5)), .ref (z + (t + 6)), .int 0, .ref (z + (t + 7)), .ref (z + (t + 8)), .null, .int 0, .int 0, .int 0, .null])) H := h0
  have h1 := dk_kNe h1 ho (by omega)
  have h2 := dk_kNe h2 ho (by omega)
  have h3 := dk_kNe h3 ho (by omega)
  have h4 := dk_kNe h4 ho (by omega)
  have h5 := dk_kNe h5 ho (by omega)
  have h6 := dk_kNe h6 ho (by omega)
  have h7 := dk_kNe h7 ho (by omega)
  have h8 := dk_kNe h8 ho (by omega)
  have hz : H.size = z + (t + 9) := hz1.trans hz
  refine lv_aload_n hx hb dX4_init_62 rfl (lv_at hl 0 rfl) ?_
  refine lv_bipush (v := 6) hx hb dX4_init_63 (by decide) ?_
  refine dk_newa (h := z + (t + 9)) (N := 6) hx hb (hts (.arrayClass .int) (List.mem_of_getElem? (i := 4) rfl)) hK hS hz (by decide) rfl (by decide) (Nat.le_of_ble_eq_true rfl) (Nat.le_of_ble_eq_true rfl) dX4_init_65 (fun H h9 ho hz hS => ?_)
  have h0 := dk_kLt h0 ho (by omega)
  have h1 := dk_kLt h1 ho (by omega)
  have h2 := dk_kLt h2 ho (by omega)
  have h3 := dk_kLt h3 ho (by omega)
  have h4 := dk_kLt h4 ho (by omega)
  have h5 := dk_kLt h5 ho (by omega)
  have h6 := dk_kLt h6 ho (by omega)
  have h7 := dk_kLt h7 ho (by omega)
  have h8 := dk_kLt h8 ho (by omega)
  have hz : H.size = z + (t + 10) := hz
  refine dk_putF0 (a := z + t) (ci := 4) (C := RX4) (T := TX4) (N := 19) (v := .ref (z + (t + 9))) (ty := .array .int) hx hb hts iX4_init_4 tyX4 tyX4_ok nmX4 hown hK h0 hS (Nat.le_refl _) rfl 14 (by decide) (hts (.fieldLink RX4 36 "DogKings$Town" "dogAt" "[I") (List.mem_of_getElem? (i := 13) rfl)) rfl hin rfl (by decide +kernel) rfl rfl (Nat.le_of_ble_eq_true rfl) dX4_init_67 (fun H L h0 ho hz1 hS => ?_)
  have h0 : va_at g.1 vwCl (z + t, .inr (4, [.int 0, .int 0, .int 0, .int 0, .int 0, .ref (z + (t + 1)), .ref (z + (t + 2)), .ref (z + (t + 3)), .ref (z + (t + 4)), .ref (z + (t + 5)), .ref (z + (t + 6)), .int 0, .ref (z + (t + 7)), .ref (z + (t + 8)), .ref (z + (t + 9)), .int 0, .int 0, .int 0, .null])) H := h0
  have h1 := dk_kNe h1 ho (by omega)
  have h2 := dk_kNe h2 ho (by omega)
  have h3 := dk_kNe h3 ho (by omega)
  have h4 := dk_kNe h4 ho (by omega)
  have h5 := dk_kNe h5 ho (by omega)
  have h6 := dk_kNe h6 ho (by omega)
  have h7 := dk_kNe h7 ho (by omega)
  have h8 := dk_kNe h8 ho (by omega)
  have h9 := dk_kNe h9 ho (by omega)
  have hz : H.size = z + (t + 10) := hz1.trans hz
  refine lv_aload_n hx hb dX4_init_70 rfl (lv_at hl 0 rfl) ?_
  refine lv_bipush (v := 9) hx hb dX4_init_71 (by decide) ?_
  refine dk_newa (h := z + (t + 10)) (N := 9) hx hb (hts (.arrayClass .int) (List.mem_of_getElem? (i := 4) rfl)) hK hS hz (by decide) rfl (by decide) (Nat.le_of_ble_eq_true rfl) (Nat.le_of_ble_eq_true rfl) dX4_init_73 (fun H h10 ho hz hS => ?_)
  have h0 := dk_kLt h0 ho (by omega)
  have h1 := dk_kLt h1 ho (by omega)
  have h2 := dk_kLt h2 ho (by omega)
  have h3 := dk_kLt h3 ho (by omega)
  have h4 := dk_kLt h4 ho (by omega)
  have h5 := dk_kLt h5 ho (by omega)
  have h6 := dk_kLt h6 ho (by omega)
  have h7 := dk_kLt h7 ho (by omega)
  have h8 := dk_kLt h8 ho (by omega)
  have h9 := dk_kLt h9 ho (by omega)
  have hz : H.size = z + (t + 11) := hz
  refine dk_putF0 (a := z + t) (ci := 4) (C := RX4) (T := TX4) (N := 19) (v := .ref (z + (t + 10))) (ty := .array .int) hx hb hts iX4_init_4 tyX4 tyX4_ok nmX4 hown hK h0 hS (Nat.le_refl _) rfl 18 (by decide) (hts (.fieldLink RX4 39 "DogKings$Town" "others" "[I") (List.mem_of_getElem? (i := 14) rfl)) rfl hin rfl (by decide +kernel) rfl rfl (Nat.le_of_ble_eq_true rfl) dX4_init_75 (fun H L h0 ho hz1 hS => ?_)
  have h0 : va_at g.1 vwCl (z + t, .inr (4, [.int 0, .int 0, .int 0, .int 0, .int 0, .ref (z + (t + 1)), .ref (z + (t + 2)), .ref (z + (t + 3)), .ref (z + (t + 4)), .ref (z + (t + 5)), .ref (z + (t + 6)), .int 0, .ref (z + (t + 7)), .ref (z + (t + 8)), .ref (z + (t + 9)), .int 0, .int 0, .int 0, .ref (z + (t + 10))])) H := h0
  have h1 := dk_kNe h1 ho (by omega)
  have h2 := dk_kNe h2 ho (by omega)
  have h3 := dk_kNe h3 ho (by omega)
  have h4 := dk_kNe h4 ho (by omega)
  have h5 := dk_kNe h5 ho (by omega)
  have h6 := dk_kNe h6 ho (by omega)
  have h7 := dk_kNe h7 ho (by omega)
  have h8 := dk_kNe h8 ho (by omega)
  have h9 := dk_kNe h9 ho (by omega)
  have h10 := dk_kNe h10 ho (by omega)
  have hz : H.size = z + (t + 11) := hz1.trans hz
  have hall : ∀ c, c < 11 → va_at g.1 vwCl (z + (t + c), dkTC g z t c (fun _ => 0)) H := by
    intro c hc
    rcases (by omega : c = 0 ∨ c = 1 ∨ c = 2 ∨ c = 3 ∨ c = 4 ∨ c = 5 ∨ c = 6 ∨ c = 7 ∨ c = 8 ∨ c = 9 ∨ c = 10) with rfl | rfl | rfl | rfl | rfl | rfl | rfl | rfl | rfl | rfl | rfl
    · exact h0
    · exact h1
    · exact h2
    · exact h3
    · exact h4
    · exact h5
    · exact h6
    · exact h7
    · exact h8
    · exact h9
    · exact h10
  have hfin : dkPost g z t (t + 11) H := ⟨dkReg.town ht hall, hz⟩
  exact W.vret hx hb hr (fun t9 ht9 hW9 => ⟨⟨(), rfl, trivial, dkPost_eq ht9 hfin⟩, hS.F ht9⟩) hS.2.2 dX4_init_78
set_option maxHeartbeats 4000000 in
set_option maxRecDepth 100000 in
theorem c_X2_init (l : Launch) (g : dkG) (z : Nat) : Met l yX2_init wsX2_init { frames := 2, cells := 12, slots := 166, locals := 32 } (va_Pc [.ref (z + 12)] (fun U => dkPre g z 12 (.inr (2, [.null, .int 0, .int 0, .null, .int 0, .int 0])) U.heap ∧ dkK g U)) (va_Qv (S := Unit) (fun _ => True) (fun _ t9 => dkPost g z 12 (12 + 13) t9.heap) (dkA (z + 12))) 12 166 (dkA (z + 12)) := by
  refine Met.ofW (cc := cX2_init) (maxL := 1) (ret := none) (by decide) rfl ?_
  intro p e s m args below meth c s₁ B hml hv
  obtain ⟨ha, ⟨h0, hz⟩, hK⟩ := hv
  have hx := B.exec
  have hb := B.bytes
  have hr := B.returns
  have hts := atoms_spec (ws := wsX2_init) B.pre
  have hown : s.vm.findClass RX2 = some m.cls := findClass_of_methodNamed B.named
  have hlocks := B.notSynchronized
  have hin : meth.name = "<init>" := (name_of_methodNamed B.named B.method).1
  have hS : va_S (dkA (z + 12)) s.heap s.heap [] := va_S.rf
  have hl := lv_entry ([.ref (z + 12)]) (n := 1) (Nat.le_of_ble_eq_true rfl)
  have hgo : entryFrame m args 1 = entryFrame m ([.ref (z + 12)] : List Value).toArray 1 := by rw [ha]
  rw [hgo, lg_entry_eq]
  generalize (lg_sl ([.ref (z + 12)]) ++ List.replicate (1 - (lg_sl ([.ref (z + 12)])).length) Slot.unset).toArray = ls at hl ⊢
  have hl : lv_has ls 1 [(0, .ref (z + 12))] := hl
  obtain ⟨H, hH⟩ : ∃ H, H = s.heap := ⟨_, rfl⟩
  have h0 : va_at g.1 vwCl (z + 12, .inr (2, [.null, .int 0, .int 0, .null, .int 0, .int 0])) H := by rw [hH]; exact h0
  have hz : H.size = z + 13 := by rw [hH]; exact hz
  have hz0 : H.size = z + 13 := hz
  have hS : va_S (dkA (z + 12)) s.heap H [] := by rw [hH]; exact va_S.rf
  refine dk_heap hH ?_
  refine lv_aload_n hx hb dX2_init_0 rfl (lv_at hl 0 rfl) ?_
  refine W.objInit hx hb hown (hts (.methodLink RX2 3 objectInit) (List.mem_of_getElem? (i := 1) rfl)) (hts (.instanceMethod objectInit) (List.mem_of_getElem? (i := 2) rfl)) (hts _ (List.mem_of_getElem? (i := 3) rfl)) rfl (by rw [hml]; exact hl.1) rfl dX2_init_1 (Nat.le_of_ble_eq_true rfl) (Nat.le_of_ble_eq_true rfl) ?_
  refine W.eq (g2 := F0 m 4 ls []) rfl ?_
  refine lv_aload_n hx hb dX2_init_4 rfl (lv_at hl 0 rfl) ?_
  refine lv_bipush (v := 90) hx hb dX2_init_5 (by decide) ?_
  refine dk_newa (h := z + 13) (N := 90) hx hb (hts (.arrayClass .int) (List.mem_of_getElem? (i := 4) rfl)) hK hS hz (by decide) rfl (by decide) (Nat.le_of_ble_eq_true rfl) (Nat.le_of_ble_eq_true rfl) dX2_init_7 (fun H h1 ho hz hS => ?_)
  have h0 := dk_kLt h0 ho (by decide)
  have hz : H.size = z + 14 := hz
  refine dk_putF0 (a := z + 12) (ci := 2) (C := RX2) (T := TX2) (N := 6) (v := .ref (z + 13)) (ty := .array .int) hx hb hts iX2_init_2 tyX2 tyX2_ok nmX2 hown hK h0 hS (Nat.le_refl _) rfl 0 (by decide) (hts (.fieldLink RX2 11 "DogKings$Reader" "tape" "[I") (List.mem_of_getElem? (i := 5) rfl)) rfl hin rfl (by decide +kernel) rfl rfl (Nat.le_of_ble_eq_true rfl) dX2_init_9 (fun H L h0 ho hz1 hS => ?_)
  have h0 : va_at g.1 vwCl (z + 12, .inr (2, [.ref (z + 13), .int 0, .int 0, .null, .int 0, .int 0])) H := h0
  have h1 := dk_kNe h1 ho (by decide)
  have hz : H.size = z + 14 := hz1.trans hz
  refine lv_aload_n hx hb dX2_init_12 rfl (lv_at hl 0 rfl) ?_
  refine dk_new (h := z + 14) (ci := 4) (fs := [.int 0, .int 0, .int 0, .int 0, .int 0, .null, .null, .null, .null, .null, .null, .int 0, .null, .null, .null, .int 0, .int 0, .int 0, .null]) (C := RX4) (T := TX4) (N := 19) hx hb hts iX2_init_4 tyX4 tyX4_ok hown (hts (.classLink RX2 15 RX4) (List.mem_of_getElem? (i := 6) rfl)) (hts (.instantiable RX4 19) (List.mem_of_getElem? (i := 7) rfl)) (hts (.initialized RX4) (List.mem_of_getElem? (i := 8) rfl)) hK hS hz rfl dk_df4 (Nat.le_of_ble_eq_true rfl) (Nat.le_of_ble_eq_true rfl) dX2_init_13 (fun H h2 ho hz hS => ?_)
  have h0 := dk_kLt h0 ho (by decide)
  have h1 := dk_kLt h1 ho (by decide)
  have hz : H.size = z + 15 := hz
  refine lv_dup hx hb dX2_init_16 rfl ?_
  refine dk_IN (As := []) (rest := [.ref (z + 14), .ref (z + 12)]) ⟨hx, hb, hml, hown, hts⟩ (c_X4_init l g z (t := 14) (by unfold dkT; omega)) ⟨va_cnB 0 hts gX2_init_X4_init_n17 rfl rfl rfl (hK.2.1 (RX2, 17, yX4_init) (by decide)) (hts (.initialized RX4) (List.mem_of_getElem? (i := 8) rfl)) (by decide +kernel) ⟨Nat.le_of_ble_eq_true rfl, Nat.le_of_ble_eq_true rfl⟩, rfl, (hts (.instanceMethod yX4_init) (List.mem_of_getElem? (i := 10) rfl))⟩ ⟨h2, hz⟩ hK hS (dk_Ale (by decide)) rfl hl.1 rfl (Nat.le_of_ble_eq_true rfl) dX2_init_17 ⟨Nat.le_of_ble_eq_true rfl, Nat.le_of_ble_eq_true rfl⟩ (fun H L hp ho hS => ?_)
  obtain ⟨r2, hz9⟩ := hp
  have h0 := dk_kCa h0 ho (by decide)
  have h1 := dk_kCa h1 ho (by decide)
  have hz : H.size = z + 25 := hz9
  refine dk_putF0 (a := z + 12) (ci := 2) (C := RX2) (T := TX2) (N := 6) (v := .ref (z + 14)) (ty := .object "DogKings$Town") hx hb hts iX2_init_2 tyX2 tyX2_ok nmX2 hown hK h0 hS (Nat.le_refl _) rfl 3 (by decide) (hts (.fieldLink RX2 18 "DogKings$Reader" "draft" "LDogKings$Town;") (List.mem_of_getElem? (i := 9) rfl)) rfl hin rfl (by decide +kernel) rfl rfl (Nat.le_of_ble_eq_true rfl) dX2_init_20 (fun H L h0 ho hz1 hS => ?_)
  have h0 : va_at g.1 vwCl (z + 12, .inr (2, [.ref (z + 13), .int 0, .int 0, .ref (z + 14), .int 0, .int 0])) H := h0
  have h1 := dk_kNe h1 ho (by decide)
  have r2 := r2.kNe ho (by decide)
  have hz : H.size = z + 25 := hz1.trans hz
  have hreg : dkReg g z 12 25 H := by
    exact (dkReg.app (b := 13) (dkReg.one (a := 12) h0) (dkReg.app (b := 14) (dkReg.one (a := 13) h1) r2))
  have hfin : dkPost g z 12 (12 + 13) H := ⟨hreg, hz⟩
  exact W.vret hx hb hr (fun t9 ht9 hW9 => ⟨⟨(), rfl, trivial, dkPost_eq ht9 hfin⟩, hS.F ht9⟩) hS.2.2 dX2_init_23
set_option maxHeartbeats 4000000 in
set_option maxRecDepth 100000 in
theorem c_X3_init (l : Launch) (g : dkG) (z : Nat) : Met l yX3_init wsX3_init { frames := 2, cells := 12, slots := 81, locals := 32 } (va_Pc [.ref (z + 325), .ref (z + 25)] (fun U => dkPre g z 325 (.inr (3, [.null, .null, .int 0, .null])) U.heap ∧ dkK g U)) (va_Qv (S := Unit) (fun _ => True) (fun _ t9 => dkPost g z 325 (325 + 13) t9.heap) (dkA (z + 325))) 12 81 (dkA (z + 325)) := by
  refine Met.ofW (cc := cX3_init) (maxL := 2) (ret := none) (by decide) rfl ?_
  intro p e s m args below meth c s₁ B hml hv
  obtain ⟨ha, ⟨h0, hz⟩, hK⟩ := hv
  have hx := B.exec
  have hb := B.bytes
  have hr := B.returns
  have hts := atoms_spec (ws := wsX3_init) B.pre
  have hown : s.vm.findClass RX3 = some m.cls := findClass_of_methodNamed B.named
  have hlocks := B.notSynchronized
  have hin : meth.name = "<init>" := (name_of_methodNamed B.named B.method).1
  have hS : va_S (dkA (z + 325)) s.heap s.heap [] := va_S.rf
  have hl := lv_entry ([.ref (z + 325), .ref (z + 25)]) (n := 2) (Nat.le_of_ble_eq_true rfl)
  have hgo : entryFrame m args 2 = entryFrame m ([.ref (z + 325), .ref (z + 25)] : List Value).toArray 2 := by rw [ha]
  rw [hgo, lg_entry_eq]
  generalize (lg_sl ([.ref (z + 325), .ref (z + 25)]) ++ List.replicate (2 - (lg_sl ([.ref (z + 325), .ref (z + 25)])).length) Slot.unset).toArray = ls at hl ⊢
  have hl : lv_has ls 2 [(0, .ref (z + 325)), (1, .ref (z + 25))] := hl
  obtain ⟨H, hH⟩ : ∃ H, H = s.heap := ⟨_, rfl⟩
  have h0 : va_at g.1 vwCl (z + 325, .inr (3, [.null, .null, .int 0, .null])) H := by rw [hH]; exact h0
  have hz : H.size = z + 326 := by rw [hH]; exact hz
  have hz0 : H.size = z + 326 := hz
  have hS : va_S (dkA (z + 325)) s.heap H [] := by rw [hH]; exact va_S.rf
  refine dk_heap hH ?_
  refine lv_aload_n hx hb dX3_init_0 rfl (lv_at hl 0 rfl) ?_
  refine W.objInit hx hb hown (hts (.methodLink RX3 3 objectInit) (List.mem_of_getElem? (i := 1) rfl)) (hts (.instanceMethod objectInit) (List.mem_of_getElem? (i := 2) rfl)) (hts _ (List.mem_of_getElem? (i := 3) rfl)) rfl (by rw [hml]; exact hl.1) rfl dX3_init_1 (Nat.le_of_ble_eq_true rfl) (Nat.le_of_ble_eq_true rfl) ?_
  refine W.eq (g2 := F0 m 4 ls []) rfl ?_
  refine lv_aload_n hx hb dX3_init_4 rfl (lv_at hl 0 rfl) ?_
  refine dk_new (h := z + 326) (ci := 4) (fs := [.int 0, .int 0, .int 0, .int 0, .int 0, .null, .null, .null, .null, .null, .null, .int 0, .null, .null, .null, .int 0, .int 0, .int 0, .null]) (C := RX4) (T := TX4) (N := 19) hx hb hts iX3_init_4 tyX4 tyX4_ok hown (hts (.classLink RX3 9 RX4) (List.mem_of_getElem? (i := 4) rfl)) (hts (.instantiable RX4 19) (List.mem_of_getElem? (i := 5) rfl)) (hts (.initialized RX4) (List.mem_of_getElem? (i := 6) rfl)) hK hS hz rfl dk_df4 (Nat.le_of_ble_eq_true rfl) (Nat.le_of_ble_eq_true rfl) dX3_init_5 (fun H h1 ho hz hS => ?_)
  have h0 := dk_kLt h0 ho (by decide)
  have hz : H.size = z + 327 := hz
  refine lv_dup hx hb dX3_init_8 rfl ?_
  refine dk_IN (As := []) (rest := [.ref (z + 326), .ref (z + 325)]) ⟨hx, hb, hml, hown, hts⟩ (c_X4_init l g z (t := 326) (by unfold dkT; omega)) ⟨va_cnB 0 hts gX3_init_X4_init_n11 rfl rfl rfl (hK.2.1 (RX3, 11, yX4_init) (by decide)) (hts (.initialized RX4) (List.mem_of_getElem? (i := 6) rfl)) (by decide +kernel) ⟨Nat.le_of_ble_eq_true rfl, Nat.le_of_ble_eq_true rfl⟩, rfl, (hts (.instanceMethod yX4_init) (List.mem_of_getElem? (i := 11) rfl))⟩ ⟨h1, hz⟩ hK hS (dk_Ale (by decide)) rfl hl.1 rfl (Nat.le_of_ble_eq_true rfl) dX3_init_9 ⟨Nat.le_of_ble_eq_true rfl, Nat.le_of_ble_eq_true rfl⟩ (fun H L hp ho hS => ?_)
  obtain ⟨r1, hz9⟩ := hp
  have h0 := dk_kCa h0 ho (by decide)
  have hz : H.size = z + 337 := hz9
  refine dk_putF0 (a := z + 325) (ci := 3) (C := RX3) (T := TX3) (N := 4) (v := .ref (z + 326)) (ty := .object "DogKings$Town") hx hb hts iX3_init_3 tyX3 tyX3_ok nmX3 hown hK h0 hS (Nat.le_refl _) rfl 1 (by decide) (hts (.fieldLink RX3 12 "DogKings$Seer" "then" "LDogKings$Town;") (List.mem_of_getElem? (i := 7) rfl)) rfl hin rfl (by decide +kernel) rfl rfl (Nat.le_of_ble_eq_true rfl) dX3_init_12 (fun H L h0 ho hz1 hS => ?_)
  have h0 : va_at g.1 vwCl (z + 325, .inr (3, [.null, .ref (z + 326), .int 0, .null])) H := h0
  have r1 := r1.kNe ho (by decide)
  have hz : H.size = z + 337 := hz1.trans hz
  refine lv_aload_n hx hb dX3_init_15 rfl (lv_at hl 0 rfl) ?_
  refine lv_iconst (v := 5) hx hb dX3_init_16 (by decide) ?_
  refine dk_newa (h := z + 337) (N := 5) hx hb (hts (.arrayClass .int) (List.mem_of_getElem? (i := 8) rfl)) hK hS hz (by decide) rfl (by decide) (Nat.le_of_ble_eq_true rfl) (Nat.le_of_ble_eq_true rfl) dX3_init_17 (fun H h12 ho hz hS => ?_)
  have h0 := dk_kLt h0 ho (by decide)
  have r1 := r1.kLt ho (by decide)
  have hz : H.size = z + 338 := hz
  refine dk_putF0 (a := z + 325) (ci := 3) (C := RX3) (T := TX3) (N := 4) (v := .ref (z + 337)) (ty := .array .int) hx hb hts iX3_init_3 tyX3 tyX3_ok nmX3 hown hK h0 hS (Nat.le_refl _) rfl 3 (by decide) (hts (.fieldLink RX3 18 "DogKings$Seer" "crowns" "[I") (List.mem_of_getElem? (i := 9) rfl)) rfl hin rfl (by decide +kernel) rfl rfl (Nat.le_of_ble_eq_true rfl) dX3_init_19 (fun H L h0 ho hz1 hS => ?_)
  have h0 : va_at g.1 vwCl (z + 325, .inr (3, [.null, .ref (z + 326), .int 0, .ref (z + 337)])) H := h0
  have h12 := dk_kNe h12 ho (by decide)
  have r1 := r1.kNe ho (by decide)
  have hz : H.size = z + 338 := hz1.trans hz
  refine lv_aload_n hx hb dX3_init_22 rfl (lv_at hl 0 rfl) ?_
  refine lv_aload_n hx hb dX3_init_23 rfl (lv_at hl 1 rfl) ?_
  refine dk_putF0 (a := z + 325) (ci := 3) (C := RX3) (T := TX3) (N := 4) (v := .ref (z + 25)) (ty := .object "DogKings$Town") hx hb hts iX3_init_3 tyX3 tyX3_ok nmX3 hown hK h0 hS (Nat.le_refl _) rfl 0 (by decide) (hts (.fieldLink RX3 22 "DogKings$Seer" "now" "LDogKings$Town;") (List.mem_of_getElem? (i := 10) rfl)) rfl hin rfl (by decide +kernel) rfl rfl (Nat.le_of_ble_eq_true rfl) dX3_init_24 (fun H L h0 ho hz1 hS => ?_)
  have h0 : va_at g.1 vwCl (z + 325, .inr (3, [.ref (z + 25), .ref (z + 326), .int 0, .ref (z + 337)])) H := h0
  have h12 := dk_kNe h12 ho (by decide)
  have r1 := r1.kNe ho (by decide)
  have hz : H.size = z + 338 := hz1.trans hz
  have hreg : dkReg g z 325 338 H := by
    exact (dkReg.app (b := 326) (dkReg.one (a := 325) h0) (dkReg.app (b := 337) r1 (dkReg.one (a := 337) h12)))
  have hfin : dkPost g z 325 (325 + 13) H := ⟨hreg, hz⟩
  exact W.vret hx hb hr (fun t9 ht9 hW9 => ⟨⟨(), rfl, trivial, dkPost_eq ht9 hfin⟩, hS.F ht9⟩) hS.2.2 dX3_init_27
set_option maxHeartbeats 4000000 in
set_option maxRecDepth 100000 in
theorem c_X1_init (l : Launch) (g : dkG) (z : Nat) : Met l yX1_init wsX1_init { frames := 1, cells := 1, slots := 16, locals := 12 } (va_Pc [.ref (z + 338), .ref (z + 25)] (fun U => dkPre g z 338 (.inr (1, [.null, .null, .int 0])) U.heap ∧ dkK g U)) (va_Qv (S := Unit) (fun _ => True) (fun _ t9 => dkPost g z 338 (338 + 2) t9.heap) (dkA (z + 338))) 1 16 (dkA (z + 338)) := by
  refine Met.ofW (cc := cX1_init) (maxL := 2) (ret := none) (by decide) rfl ?_
  intro p e s m args below meth c s₁ B hml hv
  obtain ⟨ha, ⟨h0, hz⟩, hK⟩ := hv
  have hx := B.exec
  have hb := B.bytes
  have hr := B.returns
  have hts := atoms_spec (ws := wsX1_init) B.pre
  have hown : s.vm.findClass RX1 = some m.cls := findClass_of_methodNamed B.named
  have hlocks := B.notSynchronized
  have hin : meth.name = "<init>" := (name_of_methodNamed B.named B.method).1
  have hS : va_S (dkA (z + 338)) s.heap s.heap [] := va_S.rf
  have hl := lv_entry ([.ref (z + 338), .ref (z + 25)]) (n := 2) (Nat.le_of_ble_eq_true rfl)
  have hgo : entryFrame m args 2 = entryFrame m ([.ref (z + 338), .ref (z + 25)] : List Value).toArray 2 := by rw [ha]
  rw [hgo, lg_entry_eq]
  generalize (lg_sl ([.ref (z + 338), .ref (z + 25)]) ++ List.replicate (2 - (lg_sl ([.ref (z + 338), .ref (z + 25)])).length) Slot.unset).toArray = ls at hl ⊢
  have hl : lv_has ls 2 [(0, .ref (z + 338)), (1, .ref (z + 25))] := hl
  obtain ⟨H, hH⟩ : ∃ H, H = s.heap := ⟨_, rfl⟩
  have h0 : va_at g.1 vwCl (z + 338, .inr (1, [.null, .null, .int 0])) H := by rw [hH]; exact h0
  have hz : H.size = z + 339 := by rw [hH]; exact hz
  have hz0 : H.size = z + 339 := hz
  have hS : va_S (dkA (z + 338)) s.heap H [] := by rw [hH]; exact va_S.rf
  refine dk_heap hH ?_
  refine lv_aload_n hx hb dX1_init_0 rfl (lv_at hl 0 rfl) ?_
  refine W.objInit hx hb hown (hts (.methodLink RX1 3 objectInit) (List.mem_of_getElem? (i := 1) rfl)) (hts (.instanceMethod objectInit) (List.mem_of_getElem? (i := 2) rfl)) (hts _ (List.mem_of_getElem? (i := 3) rfl)) rfl (by rw [hml]; exact hl.1) rfl dX1_init_1 (Nat.le_of_ble_eq_true rfl) (Nat.le_of_ble_eq_true rfl) ?_
  refine W.eq (g2 := F0 m 4 ls []) rfl ?_
  refine lv_aload_n hx hb dX1_init_4 rfl (lv_at hl 0 rfl) ?_
  refine lv_bipush (v := 16) hx hb dX1_init_5 (by decide) ?_
  refine dk_newa (h := z + 339) (N := 16) hx hb (hts (.arrayClass .int) (List.mem_of_getElem? (i := 4) rfl)) hK hS hz (by decide) rfl (by decide) (Nat.le_of_ble_eq_true rfl) (Nat.le_of_ble_eq_true rfl) dX1_init_7 (fun H h1 ho hz hS => ?_)
  have h0 := dk_kLt h0 ho (by decide)
  have hz : H.size = z + 340 := hz
  refine dk_putF0 (a := z + 338) (ci := 1) (C := RX1) (T := TX1) (N := 3) (v := .ref (z + 339)) (ty := .array .int) hx hb hts iX1_init_1 tyX1 tyX1_ok nmX1 hown hK h0 hS (Nat.le_refl _) rfl 1 (by decide) (hts (.fieldLink RX1 11 "DogKings$Asks" "traced" "[I") (List.mem_of_getElem? (i := 5) rfl)) rfl hin rfl (by decide +kernel) rfl rfl (Nat.le_of_ble_eq_true rfl) dX1_init_9 (fun H L h0 ho hz1 hS => ?_)
  have h0 : va_at g.1 vwCl (z + 338, .inr (1, [.null, .ref (z + 339), .int 0])) H := h0
  have h1 := dk_kNe h1 ho (by decide)
  have hz : H.size = z + 340 := hz1.trans hz
  refine lv_aload_n hx hb dX1_init_12 rfl (lv_at hl 0 rfl) ?_
  refine lv_aload_n hx hb dX1_init_13 rfl (lv_at hl 1 rfl) ?_
  refine dk_putF0 (a := z + 338) (ci := 1) (C := RX1) (T := TX1) (N := 3) (v := .ref (z + 25)) (ty := .object "DogKings$Town") hx hb hts iX1_init_1 tyX1 tyX1_ok nmX1 hown hK h0 hS (Nat.le_refl _) rfl 0 (by decide) (hts (.fieldLink RX1 15 "DogKings$Asks" "now" "LDogKings$Town;") (List.mem_of_getElem? (i := 6) rfl)) rfl hin rfl (by decide +kernel) rfl rfl (Nat.le_of_ble_eq_true rfl) dX1_init_14 (fun H L h0 ho hz1 hS => ?_)
  have h0 : va_at g.1 vwCl (z + 338, .inr (1, [.ref (z + 25), .ref (z + 339), .int 0])) H := h0
  have h1 := dk_kNe h1 ho (by decide)
  have hz : H.size = z + 340 := hz1.trans hz
  have hreg : dkReg g z 338 340 H := by
    exact (dkReg.app (b := 339) (dkReg.one (a := 338) h0) (dkReg.one (a := 339) h1))
  have hfin : dkPost g z 338 (338 + 2) H := ⟨hreg, hz⟩
  exact W.vret hx hb hr (fun t9 ht9 hW9 => ⟨⟨(), rfl, trivial, dkPost_eq ht9 hfin⟩, hS.F ht9⟩) hS.2.2 dX1_init_17
set_option maxHeartbeats 4000000 in
set_option maxRecDepth 100000 in
theorem c_X0_init (l : Launch) (g : dkG) (z : Nat) : Met l yX0_init wsX0_init { frames := 2, cells := 265, slots := 1848, locals := 32 } (va_Pc [.ref (z + 59)] (fun U => dkPre g z 59 (.inr (0, [.null, .int 0, .int 0])) U.heap ∧ dkK g U)) (va_Qv (S := Unit) (fun _ => True) (fun _ t9 => dkPost g z 59 (59 + 266) t9.heap) (dkA (z + 59))) 265 1848 (dkA (z + 59)) := by
  refine Met.ofW (cc := cX0_init) (maxL := 2) (ret := none) (by decide) rfl ?_
  intro p e s m args below meth c s₁ B hml hv
  obtain ⟨ha, ⟨h0, hz⟩, hK⟩ := hv
  have hx := B.exec
  have hb := B.bytes
  have hr := B.returns
  have hts := atoms_spec (ws := wsX0_init) B.pre
  have hown : s.vm.findClass RX0 = some m.cls := findClass_of_methodNamed B.named
  have hlocks := B.notSynchronized
  have hin : meth.name = "<init>" := (name_of_methodNamed B.named B.method).1
  have hS : va_S (dkA (z + 59)) s.heap s.heap [] := va_S.rf
  have hl := lv_entry ([.ref (z + 59)]) (n := 2) (Nat.le_of_ble_eq_true rfl)
  have hgo : entryFrame m args 2 = entryFrame m ([.ref (z + 59)] : List Value).toArray 2 := by rw [ha]
  rw [hgo, lg_entry_eq]
  generalize (lg_sl ([.ref (z + 59)]) ++ List.replicate (2 - (lg_sl ([.ref (z + 59)])).length) Slot.unset).toArray = ls at hl ⊢
  have hl : lv_has ls 2 [(0, .ref (z + 59))] := hl
  obtain ⟨H, hH⟩ : ∃ H, H = s.heap := ⟨_, rfl⟩
  have h0 : va_at g.1 vwCl (z + 59, .inr (0, [.null, .int 0, .int 0])) H := by rw [hH]; exact h0
  have hz : H.size = z + 60 := by rw [hH]; exact hz
  have hz0 : H.size = z + 60 := hz
  have hS : va_S (dkA (z + 59)) s.heap H [] := by rw [hH]; exact va_S.rf
  refine dk_heap hH ?_
  have hloop : ∀ (k i : Nat), i + k = 24 → ∀ (x1 : Int32) (H : Heap) (L : List Loc) (ls : Array Slot) (cells slots : Nat), x1.toInt = (i : Int) → cells = 1 + 11 * i → slots = 24 + 76 * i → va_at g.1 vwCl (z + 59, .inr (0, [.ref (z + 60), .int 0, .int 0])) H → va_at g.1 vwCl (z + 60, dkRefs g.2.2.2.1 24 (fun j => if j < i then some (z + (61 + 11 * j)) else none)) H → dkReg g z 61 (61 + 11 * i) H → H.size = z + (61 + 11 * i) → va_S (dkA (z + 59)) s.heap H L → lv_has ls 2 [(1, .int x1), (0, .ref (z + 59))] → W p l e (headSpec wsX0_init { frames := 2, cells := 265, slots := 1848, locals := 32 }).room s m args below meth c H L cells slots (MQ below (va_Qv (S := Unit) (fun _ => True) (fun _ t9 => dkPost g z 59 (59 + 266) t9.heap) (dkA (z + 59))) args s 265 1848 (dkA (z + 59))) (F0 m 15 ls []) := by
    intro k
    induction k with
    | zero =>
      intro i hi x1 H L ls cells slots ex ec es h0 h1 hR hz hS hl
      have ei : i = 24 := by omega
      subst ei
      subst ec
      subst es
      refine lv_iload_n hx hb dX0_init_15 rfl (lv_at hl 0 rfl) ?_
      refine lv_bipush (v := 24) hx hb dX0_init_16 (by decide) ?_
      refine lv_icmp_ge (tgt := 40) hx hb dX0_init_18 (by decide) (fun c1 => ?_) (fun c1 => ?_)
      · have hreg : dkReg g z 59 325 H := dkReg.app (b := 60) (dkReg.one (a := 59) h0) (dkReg.app (b := 61) (dkReg.one (a := 60) h1) hR)
        have hfin : dkPost g z 59 (59 + 266) H := ⟨hreg, hz⟩
        exact W.vret hx hb hr (fun t9 ht9 hW9 => ⟨⟨(), rfl, trivial, dkPost_eq ht9 hfin⟩, hS.F ht9⟩) hS.2.2 dX0_init_40
      · have := dk_nle c1
        rw [ex] at this
        exact absurd this (by decide)
    | succ k ih =>
      intro i hi x1 H L ls cells slots ex ec es h0 h1 hR hz hS hl
      subst ec
      subst es
      have hi9 : i < 24 := by omega
      refine lv_iload_n hx hb dX0_init_15 rfl (lv_at hl 0 rfl) ?_
      refine lv_bipush (v := 24) hx hb dX0_init_16 (by decide) ?_
      refine lv_icmp_ge (tgt := 40) hx hb dX0_init_18 (by decide) (fun c1 => ?_) (fun c1 => ?_)
      · have h9 := dk_le c1
        rw [ex] at h9
        have h8 : (24 : Int32).toInt = 24 := rfl
        omega
      · refine lv_aload_n hx hb dX0_init_21 rfl (lv_at hl 1 rfl) ?_
        refine dk_get (k := 59) hx hb hts iX0_init_0 hown hK h0 rfl 0 (by decide) (hts (.fieldLink RX0 11 "DogKings$Acts" "before" "[LDogKings$Town;") (List.mem_of_getElem? (i := 5) rfl)) rfl dX0_init_22 ?_
        refine lv_iload_n hx hb dX0_init_25 rfl (lv_at hl 0 rfl) ?_
        refine dk_new (h := z + (61 + 11 * i)) (ci := 4) (fs := [.int 0, .int 0, .int 0, .int 0, .int 0, .null, .null, .null, .null, .null, .null, .int 0, .null, .null, .null, .int 0, .int 0, .int 0, .null]) (C := RX4) (T := TX4) (N := 19) hx hb hts iX0_init_4 tyX4 tyX4_ok hown (hts (.classLink RX0 9 RX4) (List.mem_of_getElem? (i := 4) rfl)) (hts (.instantiable RX4 19) (List.mem_of_getElem? (i := 6) rfl)) (hts (.initialized RX4) (List.mem_of_getElem? (i := 7) rfl)) hK hS hz rfl dk_df4 (by show 1 + 11 * i + 1 ≤ 265; omega) (by show 24 + 76 * i + 19 ≤ 1848; omega) dX0_init_26 (fun H hT ho hz hS => ?_)
        have h0 := h0.kept (ho _ (by omega))
        have h1 := h1.kept (ho _ (by omega))
        have hR := hR.kept (fun k q1 q2 => ho _ (by omega))
        have hz : H.size = z + ((61 + 11 * i) + 1) := hz
        refine lv_dup hx hb dX0_init_29 rfl ?_
        refine dk_IN (As := []) (rest := [.ref (z + (61 + 11 * i)), .int x1, .ref (z + 60)]) ⟨hx, hb, hml, hown, hts⟩ (c_X4_init l g z (t := 61 + 11 * i) (Or.inr (Or.inr (Or.inr (Or.inr (Or.inr ⟨i, hi9, rfl⟩)))))) ⟨va_cnB 0 hts gX0_init_X4_init_n15 rfl rfl rfl (hK.2.1 (RX0, 15, yX4_init) (by decide)) (hts (.initialized RX4) (List.mem_of_getElem? (i := 7) rfl)) (by decide +kernel) ⟨Nat.le_of_ble_eq_true rfl, Nat.le_of_ble_eq_true rfl⟩, rfl, (hts (.instanceMethod yX4_init) (List.mem_of_getElem? (i := 8) rfl))⟩ ⟨hT, hz⟩ hK hS (fun q h => by have h9 : z + (61 + 11 * i) ≤ q := h; show z + 59 ≤ q; omega) rfl hl.1 rfl (Nat.le_of_ble_eq_true rfl) dX0_init_30 ⟨by show 1 + 11 * i + 1 + 10 ≤ 265; omega, by show 24 + 76 * i + 19 + 57 ≤ 1848; omega⟩ (fun H L hp ho hS => ?_)
        obtain ⟨rT, hz9⟩ := hp
        have h0 := h0.kept (ho _ (by omega) (by omega))
        have h1 := h1.kept (ho _ (by omega) (by omega))
        have hR := hR.kept (fun k q1 q2 => ho _ (by omega) (by omega))
        have hTn := rT (61 + 11 * i) (Nat.le_refl _) (by omega)
        rw [show 61 + 11 * i = 61 + 11 * i + 0 from rfl, dkC_T g z (t := 61 + 11 * i) (Or.inr (Or.inr (Or.inr (Or.inr (Or.inr ⟨i, hi9, rfl⟩))))) (c := 0) (by decide)] at hTn
        have ej : x1.toNatClampNeg = i := by have h7 : x1.toNatClampNeg = x1.toInt.toNat := rfl; omega
        refine dk_tst (a := z + 60) (v := z + (61 + 11 * i)) (A := dkA (z + 59)) hx hb hK h1 hTn hS (by show z + 59 ≤ _; omega) (vp_in_iff.mpr ⟨by omega, by omega⟩) dX0_init_33 (fun H L h1 ho hz1 hS => ?_)
        have h0 := h0.kept (ho _ (by omega))
        have hR := hR.kept (fun k q1 q2 => ho _ (by omega))
        have rT := rT.kept (fun k q1 q2 => ho _ (by omega))
        have ef : va_up (fun j => if j < i then some (z + (61 + 11 * j)) else none) x1.toNatClampNeg (some (z + (61 + 11 * i))) = (fun j => if j < i + 1 then some (z + (61 + 11 * j)) else none) := by
          rw [ej]
          funext j
          by_cases hj : j = i
          · subst hj
            rw [va_up, if_pos rfl, if_pos (by omega)]
          · rw [va_up, if_neg hj]
            by_cases h2 : j < i
            · rw [if_pos h2, if_pos (by omega)]
            · rw [if_neg h2, if_neg (by omega)]
        rw [ef] at h1
        obtain ⟨x2, ex2⟩ : ∃ y : Int32, y = x1 + 1 := ⟨_, rfl⟩
        have e2 : x2.toInt = ((i + 1 : Nat) : Int) := by rw [ex2, Int32.toInt_add]; rw [ex]; show Int.bmod ((i : Int) + 1) _ = _; rw [dk_bm (by omega) (by omega)]; omega
        refine lv_iinc (v := x2) (lv' := [(1, .int x2), (0, .ref (z + 59))]) hx hb dX0_init_34 hl (k := 0) rfl (by rw [ex2]; rfl) (by decide) rfl (fun ls hl => ?_)
        refine lv_goto (tgt := 15) hx hb dX0_init_37 (by decide) ?_
        have h5 : 61 + 11 * (i + 1) = 61 + 11 * i + 11 := by omega
        have hR2 : dkReg g z 61 (61 + 11 * (i + 1)) H := by rw [h5]; exact hR.app rT
        exact ih (i + 1) (by omega) x2 H L ls _ _ e2 (by omega) (by omega) h0 h1 hR2 (by rw [hz1, hz9]; omega) hS hl
  refine lv_aload_n hx hb dX0_init_0 rfl (lv_at hl 0 rfl) ?_
  refine W.objInit hx hb hown (hts (.methodLink RX0 1 objectInit) (List.mem_of_getElem? (i := 1) rfl)) (hts (.instanceMethod objectInit) (List.mem_of_getElem? (i := 2) rfl)) (hts _ (List.mem_of_getElem? (i := 3) rfl)) rfl (by rw [hml]; exact hl.1) rfl dX0_init_1 (Nat.le_of_ble_eq_true rfl) (Nat.le_of_ble_eq_true rfl) ?_
  refine W.eq (g2 := F0 m 4 ls []) rfl ?_
  refine lv_aload_n hx hb dX0_init_4 rfl (lv_at hl 0 rfl) ?_
  refine lv_bipush (v := 24) hx hb dX0_init_5 (by decide) ?_
  refine dk_newt (h := z + 60) (N := 24) hx hb hown (hts (.classLink RX0 9 RX4) (List.mem_of_getElem? (i := 4) rfl)) hK.2.2.1 hK hS hz (by decide) rfl (by decide) (Nat.le_of_ble_eq_true rfl) (Nat.le_of_ble_eq_true rfl) dX0_init_7 (fun H h1 ho hz hS => ?_)
  have h0 := dk_kLt h0 ho (by decide)
  have hz : H.size = z + 61 := hz
  refine dk_putF0 (a := z + 59) (ci := 0) (C := RX0) (T := TX0) (N := 3) (v := .ref (z + 60)) (ty := .array (.object "DogKings$Town")) hx hb hts iX0_init_0 tyX0 tyX0_ok nmX0 hown hK h0 hS (Nat.le_refl _) rfl 0 (by decide) (hts (.fieldLink RX0 11 "DogKings$Acts" "before" "[LDogKings$Town;") (List.mem_of_getElem? (i := 5) rfl)) rfl hin rfl (by decide +kernel) rfl rfl (Nat.le_of_ble_eq_true rfl) dX0_init_10 (fun H L h0 ho hz1 hS => ?_)
  have h0 : va_at g.1 vwCl (z + 59, .inr (0, [.ref (z + 60), .int 0, .int 0])) H := h0
  have h1 := dk_kNe h1 ho (by decide)
  have hz : H.size = z + 61 := hz1.trans hz
  refine lv_iconst (v := 0) hx hb dX0_init_13 (by decide) ?_
  refine lv_istore_n (lv' := [(1, .int 0), (0, .ref (z + 59))]) hx hb dX0_init_14 rfl hl (by decide) rfl (fun ls hl => ?_)
  have e9 : (fun j : Nat => if j < 0 then some (z + (61 + 11 * j)) else none) = (fun _ => none) := by
    funext j
    rw [if_neg (by omega)]
  exact hloop 24 0 rfl 0 H _ ls _ _ rfl rfl rfl h0 (by rw [e9]; exact h1) dkReg.nil hz hS hl
set_option maxHeartbeats 4000000 in
set_option maxRecDepth 100000 in
theorem c_X5_init (l : Launch) (g : dkG) (z : Nat) : Met l yX5_init wsX5_init { frames := 3, cells := 339, slots := 2701, locals := 53 } (va_Pc [.ref (z + 0)] (fun U => dkPre g z 0 (.inr (5, [.null, .null, .null, .int 0, .null, .null, .null, .null, .null, .null])) U.heap ∧ dkK g U)) (va_Qv (S := Unit) (fun _ => True) (fun _ t9 => dkPost g z 0 (0 + 340) t9.heap) (dkA (z + 0))) 339 2701 (dkA (z + 0)) := by
  refine Met.ofW (cc := cX5_init) (maxL := 1) (ret := none) (by decide) rfl ?_
  intro p e s m args below meth c s₁ B hml hv
  obtain ⟨ha, ⟨h0, hz⟩, hK⟩ := hv
  have hx := B.exec
  have hb := B.bytes
  have hr := B.returns
  have hts := atoms_spec (ws := wsX5_init) B.pre
  have hown : s.vm.findClass RX5 = some m.cls := findClass_of_methodNamed B.named
  have hlocks := B.notSynchronized
  have hin : meth.name = "<init>" := (name_of_methodNamed B.named B.method).1
  have hS : va_S (dkA (z + 0)) s.heap s.heap [] := va_S.rf
  have hl := lv_entry ([.ref (z + 0)]) (n := 1) (Nat.le_of_ble_eq_true rfl)
  have hgo : entryFrame m args 1 = entryFrame m ([.ref (z + 0)] : List Value).toArray 1 := by rw [ha]
  rw [hgo, lg_entry_eq]
  generalize (lg_sl ([.ref (z + 0)]) ++ List.replicate (1 - (lg_sl ([.ref (z + 0)])).length) Slot.unset).toArray = ls at hl ⊢
  have hl : lv_has ls 1 [(0, .ref (z + 0))] := hl
  obtain ⟨H, hH⟩ : ∃ H, H = s.heap := ⟨_, rfl⟩
  have h0 : va_at g.1 vwCl (z + 0, .inr (5, [.null, .null, .null, .int 0, .null, .null, .null, .null, .null, .null])) H := by rw [hH]; exact h0
  have hz : H.size = z + 1 := by rw [hH]; exact hz
  have hz0 : H.size = z + 1 := hz
  have hS : va_S (dkA (z + 0)) s.heap H [] := by rw [hH]; exact va_S.rf
  refine dk_heap hH ?_
  refine lv_aload_n hx hb dX5_init_0 rfl (lv_at hl 0 rfl) ?_
  refine W.objInit hx hb hown (hts (.methodLink RX5 1 objectInit) (List.mem_of_getElem? (i := 1) rfl)) (hts (.instanceMethod objectInit) (List.mem_of_getElem? (i := 2) rfl)) (hts _ (List.mem_of_getElem? (i := 3) rfl)) rfl (by rw [hml]; exact hl.1) rfl dX5_init_1 (Nat.le_of_ble_eq_true rfl) (Nat.le_of_ble_eq_true rfl) ?_
  refine W.eq (g2 := F0 m 4 ls []) rfl ?_
  refine lv_aload_n hx hb dX5_init_4 rfl (lv_at hl 0 rfl) ?_
  refine lv_bipush (v := 8) hx hb dX5_init_5 (by decide) ?_
  refine lv_bipush (v := 40) hx hb dX5_init_7 (by decide) ?_
  refine dk_mna (h := z + 1) (N' := 8) (K' := 40) (A := dkA (z + 0)) hx hb hown (hts (.classLink RX5 9 "[[I") (List.mem_of_getElem? (i := 4) rfl)) (hts (.arrayClass .int) (List.mem_of_getElem? (i := 5) rfl)) hK hS hz (by decide) (by decide) rfl rfl (by decide) (by decide) (Nat.le_of_ble_eq_true rfl) (Nat.le_of_ble_eq_true rfl) dX5_init_9 (fun q h => by rw [← hH, hz0] at h; exact Nat.le_trans (Nat.le_add_right _ 1) h) (fun H L h1 hrow ho hz hS => ?_)
  have h0 := dk_kLt h0 ho (by decide)
  have h1r : dkReg g z 1 10 H := by
    intro k q1 q2
    rcases (by omega : k = 1 ∨ k = 2 ∨ k = 3 ∨ k = 4 ∨ k = 5 ∨ k = 6 ∨ k = 7 ∨ k = 8 ∨ k = 9) with rfl | rfl | rfl | rfl | rfl | rfl | rfl | rfl | rfl
    · have e : (fun i => if i < 8 then some (z + 1 + 1 + i) else none) = (fun i => if i < 8 then some (z + (2 + i)) else none) := by
        funext i
        split
        · exact congrArg some (by omega)
        · rfl
      show va_at g.1 vwCl (z + 1, dkRefs g.2.2.2.2 8 (fun i => if i < 8 then some (z + (2 + i)) else none)) H
      rw [← e]
      exact h1
    · exact hrow 0 (by decide)
    · exact hrow 1 (by decide)
    · exact hrow 2 (by decide)
    · exact hrow 3 (by decide)
    · exact hrow 4 (by decide)
    · exact hrow 5 (by decide)
    · exact hrow 6 (by decide)
    · exact hrow 7 (by decide)
  have r1 := h1r
  have hz : H.size = z + 10 := hz
  refine dk_putF0 (a := z + 0) (ci := 5) (C := RX5) (T := TX5) (N := 10) (v := .ref (z + 1)) (ty := .array (.array .int)) hx hb hts iX5_init_5 tyX5 tyX5_ok nmX5 hown hK h0 hS (Nat.le_refl _) rfl 0 (by decide) (hts (.fieldLink RX5 11 "DogKings" "items" "[[I") (List.mem_of_getElem? (i := 6) rfl)) rfl hin rfl (by decide +kernel) rfl rfl (Nat.le_of_ble_eq_true rfl) dX5_init_13 (fun H L h0 ho hz1 hS => ?_)
  have h0 : va_at g.1 vwCl (z + 0, .inr (5, [.ref (z + 1), .null, .null, .int 0, .null, .null, .null, .null, .null, .null])) H := h0
  have r1 := r1.kNe ho (by decide)
  have hz : H.size = z + 10 := hz1.trans hz
  refine lv_aload_n hx hb dX5_init_16 rfl (lv_at hl 0 rfl) ?_
  refine lv_bipush (v := 8) hx hb dX5_init_17 (by decide) ?_
  refine dk_newa (h := z + 10) (N := 8) hx hb (hts (.arrayClass .int) (List.mem_of_getElem? (i := 5) rfl)) hK hS hz (by decide) rfl (by decide) (Nat.le_of_ble_eq_true rfl) (Nat.le_of_ble_eq_true rfl) dX5_init_19 (fun H h10 ho hz hS => ?_)
  have h0 := dk_kLt h0 ho (by decide)
  have r1 := r1.kLt ho (by decide)
  have hz : H.size = z + 11 := hz
  refine dk_putF0 (a := z + 0) (ci := 5) (C := RX5) (T := TX5) (N := 10) (v := .ref (z + 10)) (ty := .array .int) hx hb hts iX5_init_5 tyX5 tyX5_ok nmX5 hown hK h0 hS (Nat.le_refl _) rfl 1 (by decide) (hts (.fieldLink RX5 14 "DogKings" "lanes" "[I") (List.mem_of_getElem? (i := 7) rfl)) rfl hin rfl (by decide +kernel) rfl rfl (Nat.le_of_ble_eq_true rfl) dX5_init_21 (fun H L h0 ho hz1 hS => ?_)
  have h0 : va_at g.1 vwCl (z + 0, .inr (5, [.ref (z + 1), .ref (z + 10), .null, .int 0, .null, .null, .null, .null, .null, .null])) H := h0
  have h10 := dk_kNe h10 ho (by decide)
  have r1 := r1.kNe ho (by decide)
  have hz : H.size = z + 11 := hz1.trans hz
  have r10 := dkReg.one (a := 10) h10
  have r1 := dkReg.app (b := 10) r1 r10
  refine lv_aload_n hx hb dX5_init_24 rfl (lv_at hl 0 rfl) ?_
  refine lv_bipush (v := 8) hx hb dX5_init_25 (by decide) ?_
  refine dk_newa (h := z + 11) (N := 8) hx hb (hts (.arrayClass .int) (List.mem_of_getElem? (i := 5) rfl)) hK hS hz (by decide) rfl (by decide) (Nat.le_of_ble_eq_true rfl) (Nat.le_of_ble_eq_true rfl) dX5_init_27 (fun H h11 ho hz hS => ?_)
  have h0 := dk_kLt h0 ho (by decide)
  have r1 := r1.kLt ho (by decide)
  have hz : H.size = z + 12 := hz
  refine lv_dup hx hb dX5_init_29 rfl ?_
  refine lv_iconst (v := 0) hx hb dX5_init_30 (by decide) ?_
  refine lv_iconst (v := (-1)) hx hb dX5_init_31 (by decide) ?_
  refine dk_ist0 (a := z + 11) (A := dkA (z + 0)) hx hb hK h11 hS (dk_A0 (z := z) (a := 11) _ (Nat.le_refl _)) (dkN_in (n := 8) (dkN_lit (x := 0) 0 rfl) rfl) dX5_init_32 (fun H L h11 ho hz1 hS => ?_)
  have h0 := dk_kNe h0 ho (by decide)
  have r1 := r1.kNe ho (by decide)
  have hz : H.size = z + 12 := hz1.trans hz
  refine lv_dup hx hb dX5_init_33 rfl ?_
  refine lv_iconst (v := 1) hx hb dX5_init_34 (by decide) ?_
  refine lv_iconst (v := (-1)) hx hb dX5_init_35 (by decide) ?_
  refine dk_ist0 (a := z + 11) (A := dkA (z + 0)) hx hb hK h11 hS (dk_A0 (z := z) (a := 11) _ (Nat.le_refl _)) (dkN_in (n := 8) (dkN_lit (x := 1) 1 rfl) rfl) dX5_init_36 (fun H L h11 ho hz1 hS => ?_)
  have h0 := dk_kNe h0 ho (by decide)
  have r1 := r1.kNe ho (by decide)
  have hz : H.size = z + 12 := hz1.trans hz
  refine lv_dup hx hb dX5_init_37 rfl ?_
  refine lv_iconst (v := 2) hx hb dX5_init_38 (by decide) ?_
  refine lv_iconst (v := (-1)) hx hb dX5_init_39 (by decide) ?_
  refine dk_ist0 (a := z + 11) (A := dkA (z + 0)) hx hb hK h11 hS (dk_A0 (z := z) (a := 11) _ (Nat.le_refl _)) (dkN_in (n := 8) (dkN_lit (x := 2) 2 rfl) rfl) dX5_init_40 (fun H L h11 ho hz1 hS => ?_)
  have h0 := dk_kNe h0 ho (by decide)
  have r1 := r1.kNe ho (by decide)
  have hz : H.size = z + 12 := hz1.trans hz
  refine lv_dup hx hb dX5_init_41 rfl ?_
  refine lv_iconst (v := 3) hx hb dX5_init_42 (by decide) ?_
  refine lv_iconst (v := (-1)) hx hb dX5_init_43 (by decide) ?_
  refine dk_ist0 (a := z + 11) (A := dkA (z + 0)) hx hb hK h11 hS (dk_A0 (z := z) (a := 11) _ (Nat.le_refl _)) (dkN_in (n := 8) (dkN_lit (x := 3) 3 rfl) rfl) dX5_init_44 (fun H L h11 ho hz1 hS => ?_)
  have h0 := dk_kNe h0 ho (by decide)
  have r1 := r1.kNe ho (by decide)
  have hz : H.size = z + 12 := hz1.trans hz
  refine lv_dup hx hb dX5_init_45 rfl ?_
  refine lv_iconst (v := 4) hx hb dX5_init_46 (by decide) ?_
  refine lv_iconst (v := (-1)) hx hb dX5_init_47 (by decide) ?_
  refine dk_ist0 (a := z + 11) (A := dkA (z + 0)) hx hb hK h11 hS (dk_A0 (z := z) (a := 11) _ (Nat.le_refl _)) (dkN_in (n := 8) (dkN_lit (x := 4) 4 rfl) rfl) dX5_init_48 (fun H L h11 ho hz1 hS => ?_)
  have h0 := dk_kNe h0 ho (by decide)
  have r1 := r1.kNe ho (by decide)
  have hz : H.size = z + 12 := hz1.trans hz
  refine lv_dup hx hb dX5_init_49 rfl ?_
  refine lv_iconst (v := 5) hx hb dX5_init_50 (by decide) ?_
  refine lv_iconst (v := (-1)) hx hb dX5_init_51 (by decide) ?_
  refine dk_ist0 (a := z + 11) (A := dkA (z + 0)) hx hb hK h11 hS (dk_A0 (z := z) (a := 11) _ (Nat.le_refl _)) (dkN_in (n := 8) (dkN_lit (x := 5) 5 rfl) rfl) dX5_init_52 (fun H L h11 ho hz1 hS => ?_)
  have h0 := dk_kNe h0 ho (by decide)
  have r1 := r1.kNe ho (by decide)
  have hz : H.size = z + 12 := hz1.trans hz
  refine lv_dup hx hb dX5_init_53 rfl ?_
  refine lv_bipush (v := 6) hx hb dX5_init_54 (by decide) ?_
  refine lv_iconst (v := (-1)) hx hb dX5_init_56 (by decide) ?_
  refine dk_ist0 (a := z + 11) (A := dkA (z + 0)) hx hb hK h11 hS (dk_A0 (z := z) (a := 11) _ (Nat.le_refl _)) (dkN_in (n := 8) (dkN_lit (x := 6) 6 rfl) rfl) dX5_init_57 (fun H L h11 ho hz1 hS => ?_)
  have h0 := dk_kNe h0 ho (by decide)
  have r1 := r1.kNe ho (by decide)
  have hz : H.size = z + 12 := hz1.trans hz
  refine lv_dup hx hb dX5_init_58 rfl ?_
  refine lv_bipush (v := 7) hx hb dX5_init_59 (by decide) ?_
  refine lv_iconst (v := (-1)) hx hb dX5_init_61 (by decide) ?_
  refine dk_ist0 (a := z + 11) (A := dkA (z + 0)) hx hb hK h11 hS (dk_A0 (z := z) (a := 11) _ (Nat.le_refl _)) (dkN_in (n := 8) (dkN_lit (x := 7) 7 rfl) rfl) dX5_init_62 (fun H L h11 ho hz1 hS => ?_)
  have h0 := dk_kNe h0 ho (by decide)
  have r1 := r1.kNe ho (by decide)
  have hz : H.size = z + 12 := hz1.trans hz
  refine dk_putF0 (a := z + 0) (ci := 5) (C := RX5) (T := TX5) (N := 10) (v := .ref (z + 11)) (ty := .array .int) hx hb hts iX5_init_5 tyX5 tyX5_ok nmX5 hown hK h0 hS (Nat.le_refl _) rfl 2 (by decide) (hts (.fieldLink RX5 18 "DogKings" "sizes" "[I") (List.mem_of_getElem? (i := 8) rfl)) rfl hin rfl (by decide +kernel) rfl rfl (Nat.le_of_ble_eq_true rfl) dX5_init_63 (fun H L h0 ho hz1 hS => ?_)
  have h0 : va_at g.1 vwCl (z + 0, .inr (5, [.ref (z + 1), .ref (z + 10), .ref (z + 11), .int 0, .null, .null, .null, .null, .null, .null])) H := h0
  have h11 := dk_kNe h11 ho (by decide)
  have r1 := r1.kNe ho (by decide)
  have hz : H.size = z + 12 := hz1.trans hz
  have r11 := dkReg.one (a := 11) (dk_sizes h11 (fun j hj => by rcases (by omega : j = 0 ∨ j = 1 ∨ j = 2 ∨ j = 3 ∨ j = 4 ∨ j = 5 ∨ j = 6 ∨ j = 7) with rfl | rfl | rfl | rfl | rfl | rfl | rfl | rfl <;> rfl))
  have r1 := dkReg.app (b := 11) r1 r11
  refine lv_aload_n hx hb dX5_init_66 rfl (lv_at hl 0 rfl) ?_
  refine dk_new (h := z + 12) (ci := 2) (fs := [.null, .int 0, .int 0, .null, .int 0, .int 0]) (C := RX2) (T := TX2) (N := 6) hx hb hts iX5_init_2 tyX2 tyX2_ok hown (hts (.classLink RX5 21 RX2) (List.mem_of_getElem? (i := 9) rfl)) (hts (.instantiable RX2 6) (List.mem_of_getElem? (i := 10) rfl)) (hts (.initialized RX2) (List.mem_of_getElem? (i := 11) rfl)) hK hS hz rfl dk_df2 (Nat.le_of_ble_eq_true rfl) (Nat.le_of_ble_eq_true rfl) dX5_init_67 (fun H h12 ho hz hS => ?_)
  have h0 := dk_kLt h0 ho (by decide)
  have r1 := r1.kLt ho (by decide)
  have hz : H.size = z + 13 := hz
  refine lv_dup hx hb dX5_init_70 rfl ?_
  refine dk_IN (As := []) (rest := [.ref (z + 12), .ref (z + 0)]) ⟨hx, hb, hml, hown, hts⟩ (c_X2_init l g z) ⟨va_cnB 0 hts gX5_init_X2_init_n23 rfl rfl rfl (hK.2.1 (RX5, 23, yX2_init) (by decide)) (hts (.initialized RX2) (List.mem_of_getElem? (i := 11) rfl)) (by decide +kernel) ⟨Nat.le_of_ble_eq_true rfl, Nat.le_of_ble_eq_true rfl⟩, rfl, (hts (.instanceMethod yX2_init) (List.mem_of_getElem? (i := 30) rfl))⟩ ⟨h12, hz⟩ hK hS (dk_Ale (by decide)) rfl hl.1 rfl (Nat.le_of_ble_eq_true rfl) dX5_init_71 ⟨Nat.le_of_ble_eq_true rfl, Nat.le_of_ble_eq_true rfl⟩ (fun H L hp ho hS => ?_)
  obtain ⟨r12, hz9⟩ := hp
  have h0 := dk_kCa h0 ho (by decide)
  have r1 := r1.kCa ho (by decide)
  have r1 := dkReg.app (b := 12) r1 r12
  have hz : H.size = z + 25 := hz9
  refine dk_putF0 (a := z + 0) (ci := 5) (C := RX5) (T := TX5) (N := 10) (v := .ref (z + 12)) (ty := .object "DogKings$Reader") hx hb hts iX5_init_5 tyX5 tyX5_ok nmX5 hown hK h0 hS (Nat.le_refl _) rfl 4 (by decide) (hts (.fieldLink RX5 24 "DogKings" "reader" "LDogKings$Reader;") (List.mem_of_getElem? (i := 12) rfl)) rfl hin rfl (by decide +kernel) rfl rfl (Nat.le_of_ble_eq_true rfl) dX5_init_74 (fun H L h0 ho hz1 hS => ?_)
  have h0 : va_at g.1 vwCl (z + 0, .inr (5, [.ref (z + 1), .ref (z + 10), .ref (z + 11), .int 0, .ref (z + 12), .null, .null, .null, .null, .null])) H := h0
  have r1 := r1.kNe ho (by decide)
  have hz : H.size = z + 25 := hz1.trans hz
  refine lv_aload_n hx hb dX5_init_77 rfl (lv_at hl 0 rfl) ?_
  refine dk_new (h := z + 25) (ci := 4) (fs := [.int 0, .int 0, .int 0, .int 0, .int 0, .null, .null, .null, .null, .null, .null, .int 0, .null, .null, .null, .int 0, .int 0, .int 0, .null]) (C := RX4) (T := TX4) (N := 19) hx hb hts iX5_init_4 tyX4 tyX4_ok hown (hts (.classLink RX5 28 RX4) (List.mem_of_getElem? (i := 13) rfl)) (hts (.instantiable RX4 19) (List.mem_of_getElem? (i := 14) rfl)) (hts (.initialized RX4) (List.mem_of_getElem? (i := 15) rfl)) hK hS hz rfl dk_df4 (Nat.le_of_ble_eq_true rfl) (Nat.le_of_ble_eq_true rfl) dX5_init_78 (fun H h25 ho hz hS => ?_)
  have h0 := dk_kLt h0 ho (by decide)
  have r1 := r1.kLt ho (by decide)
  have hz : H.size = z + 26 := hz
  refine lv_dup hx hb dX5_init_81 rfl ?_
  refine dk_IN (As := []) (rest := [.ref (z + 25), .ref (z + 0)]) ⟨hx, hb, hml, hown, hts⟩ (c_X4_init l g z (t := 25) (by unfold dkT; omega)) ⟨va_cnB 0 hts gX5_init_X4_init_n30 rfl rfl rfl (hK.2.1 (RX5, 30, yX4_init) (by decide)) (hts (.initialized RX4) (List.mem_of_getElem? (i := 15) rfl)) (by decide +kernel) ⟨Nat.le_of_ble_eq_true rfl, Nat.le_of_ble_eq_true rfl⟩, rfl, (hts (.instanceMethod yX4_init) (List.mem_of_getElem? (i := 36) rfl))⟩ ⟨h25, hz⟩ hK hS (dk_Ale (by decide)) rfl hl.1 rfl (Nat.le_of_ble_eq_true rfl) dX5_init_82 ⟨Nat.le_of_ble_eq_true rfl, Nat.le_of_ble_eq_true rfl⟩ (fun H L hp ho hS => ?_)
  obtain ⟨r25, hz9⟩ := hp
  have h0 := dk_kCa h0 ho (by decide)
  have r1 := r1.kCa ho (by decide)
  have r1 := dkReg.app (b := 25) r1 r25
  have hz : H.size = z + 36 := hz9
  refine dk_putF0 (a := z + 0) (ci := 5) (C := RX5) (T := TX5) (N := 10) (v := .ref (z + 25)) (ty := .object "DogKings$Town") hx hb hts iX5_init_5 tyX5 tyX5_ok nmX5 hown hK h0 hS (Nat.le_refl _) rfl 5 (by decide) (hts (.fieldLink RX5 31 "DogKings" "now" "LDogKings$Town;") (List.mem_of_getElem? (i := 16) rfl)) rfl hin rfl (by decide +kernel) rfl rfl (Nat.le_of_ble_eq_true rfl) dX5_init_85 (fun H L h0 ho hz1 hS => ?_)
  have h0 : va_at g.1 vwCl (z + 0, .inr (5, [.ref (z + 1), .ref (z + 10), .ref (z + 11), .int 0, .ref (z + 12), .ref (z + 25), .null, .null, .null, .null])) H := h0
  have r1 := r1.kNe ho (by decide)
  have hz : H.size = z + 36 := hz1.trans hz
  refine lv_aload_n hx hb dX5_init_88 rfl (lv_at hl 0 rfl) ?_
  refine lv_iconst (v := 2) hx hb dX5_init_89 (by decide) ?_
  refine dk_newt (h := z + 36) (N := 2) hx hb hown (hts (.classLink RX5 28 RX4) (List.mem_of_getElem? (i := 13) rfl)) hK.2.2.1 hK hS hz (by decide) rfl (by decide) (Nat.le_of_ble_eq_true rfl) (Nat.le_of_ble_eq_true rfl) dX5_init_90 (fun H h36 ho hz hS => ?_)
  have h0 := dk_kLt h0 ho (by decide)
  have r1 := r1.kLt ho (by decide)
  have hz : H.size = z + 37 := hz
  refine lv_dup hx hb dX5_init_93 rfl ?_
  refine lv_iconst (v := 0) hx hb dX5_init_94 (by decide) ?_
  refine dk_new (h := z + 37) (ci := 4) (fs := [.int 0, .int 0, .int 0, .int 0, .int 0, .null, .null, .null, .null, .null, .null, .int 0, .null, .null, .null, .int 0, .int 0, .int 0, .null]) (C := RX4) (T := TX4) (N := 19) hx hb hts iX5_init_4 tyX4 tyX4_ok hown (hts (.classLink RX5 28 RX4) (List.mem_of_getElem? (i := 13) rfl)) (hts (.instantiable RX4 19) (List.mem_of_getElem? (i := 14) rfl)) (hts (.initialized RX4) (List.mem_of_getElem? (i := 15) rfl)) hK hS hz rfl dk_df4 (Nat.le_of_ble_eq_true rfl) (Nat.le_of_ble_eq_true rfl) dX5_init_95 (fun H h37 ho hz hS => ?_)
  have h0 := dk_kLt h0 ho (by decide)
  have h36 := dk_kLt h36 ho (by decide)
  have r1 := r1.kLt ho (by decide)
  have hz : H.size = z + 38 := hz
  refine lv_dup hx hb dX5_init_98 rfl ?_
  refine dk_IN (As := []) (rest := [.ref (z + 37), .int 0, .ref (z + 36), .ref (z + 36), .ref (z + 0)]) ⟨hx, hb, hml, hown, hts⟩ (c_X4_init l g z (t := 37) (by unfold dkT; omega)) ⟨va_cnB 0 hts gX5_init_X4_init_n30 rfl rfl rfl (hK.2.1 (RX5, 30, yX4_init) (by decide)) (hts (.initialized RX4) (List.mem_of_getElem? (i := 15) rfl)) (by decide +kernel) ⟨Nat.le_of_ble_eq_true rfl, Nat.le_of_ble_eq_true rfl⟩, rfl, (hts (.instanceMethod yX4_init) (List.mem_of_getElem? (i := 36) rfl))⟩ ⟨h37, hz⟩ hK hS (dk_Ale (by decide)) rfl hl.1 rfl (Nat.le_of_ble_eq_true rfl) dX5_init_99 ⟨Nat.le_of_ble_eq_true rfl, Nat.le_of_ble_eq_true rfl⟩ (fun H L hp ho hS => ?_)
  obtain ⟨r37, hz9⟩ := hp
  have h0 := dk_kCa h0 ho (by decide)
  have h36 := dk_kCa h36 ho (by decide)
  have r1 := r1.kCa ho (by decide)
  have hz : H.size = z + 48 := hz9
  refine dk_tst (a := z + 36) (v := z + 37) (A := dkA (z + 0)) hx hb hK h36 (r37 37 (by decide) (by decide)) hS (dk_A0 (z := z) (a := 36) _ (Nat.le_refl _)) (dkN_in (n := 2) (dkN_lit (x := 0) 0 rfl) rfl) dX5_init_102 (fun H L h36 ho hz1 hS => ?_)
  have h0 := dk_kNe h0 ho (by decide)
  have r1 := r1.kNe ho (by decide)
  have r37 := r37.kNe ho (by decide)
  have hz : H.size = z + 48 := hz1.trans hz
  refine lv_dup hx hb dX5_init_103 rfl ?_
  refine lv_iconst (v := 1) hx hb dX5_init_104 (by decide) ?_
  refine dk_new (h := z + 48) (ci := 4) (fs := [.int 0, .int 0, .int 0, .int 0, .int 0, .null, .null, .null, .null, .null, .null, .int 0, .null, .null, .null, .int 0, .int 0, .int 0, .null]) (C := RX4) (T := TX4) (N := 19) hx hb hts iX5_init_4 tyX4 tyX4_ok hown (hts (.classLink RX5 28 RX4) (List.mem_of_getElem? (i := 13) rfl)) (hts (.instantiable RX4 19) (List.mem_of_getElem? (i := 14) rfl)) (hts (.initialized RX4) (List.mem_of_getElem? (i := 15) rfl)) hK hS hz rfl dk_df4 (Nat.le_of_ble_eq_true rfl) (Nat.le_of_ble_eq_true rfl) dX5_init_105 (fun H h48 ho hz hS => ?_)
  have h0 := dk_kLt h0 ho (by decide)
  have h36 := dk_kLt h36 ho (by decide)
  have r1 := r1.kLt ho (by decide)
  have r37 := r37.kLt ho (by decide)
  have hz : H.size = z + 49 := hz
  refine lv_dup hx hb dX5_init_108 rfl ?_
  refine dk_IN (As := []) (rest := [.ref (z + 48), .int 1, .ref (z + 36), .ref (z + 36), .ref (z + 0)]) ⟨hx, hb, hml, hown, hts⟩ (c_X4_init l g z (t := 48) (by unfold dkT; omega)) ⟨va_cnB 0 hts gX5_init_X4_init_n30 rfl rfl rfl (hK.2.1 (RX5, 30, yX4_init) (by decide)) (hts (.initialized RX4) (List.mem_of_getElem? (i := 15) rfl)) (by decide +kernel) ⟨Nat.le_of_ble_eq_true rfl, Nat.le_of_ble_eq_true rfl⟩, rfl, (hts (.instanceMethod yX4_init) (List.mem_of_getElem? (i := 36) rfl))⟩ ⟨h48, hz⟩ hK hS (dk_Ale (by decide)) rfl hl.1 rfl (Nat.le_of_ble_eq_true rfl) dX5_init_109 ⟨Nat.le_of_ble_eq_true rfl, Nat.le_of_ble_eq_true rfl⟩ (fun H L hp ho hS => ?_)
  obtain ⟨r48, hz9⟩ := hp
  have h0 := dk_kCa h0 ho (by decide)
  have h36 := dk_kCa h36 ho (by decide)
  have r1 := r1.kCa ho (by decide)
  have r37 := r37.kCa ho (by decide)
  have r37 := dkReg.app (b := 48) r37 r48
  have hz : H.size = z + 59 := hz9
  refine dk_tst (a := z + 36) (v := z + 48) (A := dkA (z + 0)) hx hb hK h36 (r37 48 (by decide) (by decide)) hS (dk_A0 (z := z) (a := 36) _ (Nat.le_refl _)) (dkN_in (n := 2) (dkN_lit (x := 1) 1 rfl) rfl) dX5_init_112 (fun H L h36 ho hz1 hS => ?_)
  have h0 := dk_kNe h0 ho (by decide)
  have r1 := r1.kNe ho (by decide)
  have r37 := r37.kNe ho (by decide)
  have hz : H.size = z + 59 := hz1.trans hz
  refine dk_putF0 (a := z + 0) (ci := 5) (C := RX5) (T := TX5) (N := 10) (v := .ref (z + 36)) (ty := .array (.object "DogKings$Town")) hx hb hts iX5_init_5 tyX5 tyX5_ok nmX5 hown hK h0 hS (Nat.le_refl _) rfl 6 (by decide) (hts (.fieldLink RX5 35 "DogKings" "images" "[LDogKings$Town;") (List.mem_of_getElem? (i := 17) rfl)) rfl hin rfl (by decide +kernel) rfl rfl (Nat.le_of_ble_eq_true rfl) dX5_init_113 (fun H L h0 ho hz1 hS => ?_)
  have h0 : va_at g.1 vwCl (z + 0, .inr (5, [.ref (z + 1), .ref (z + 10), .ref (z + 11), .int 0, .ref (z + 12), .ref (z + 25), .ref (z + 36), .null, .null, .null])) H := h0
  have h36 := dk_kNe h36 ho (by decide)
  have r1 := r1.kNe ho (by decide)
  have r37 := r37.kNe ho (by decide)
  have hz : H.size = z + 59 := hz1.trans hz
  have r36 := dkReg.one (a := 36) (dk_images h36)
  have r1 := dkReg.app (b := 36) r1 r36
  have r1 := dkReg.app (b := 37) r1 r37
  refine lv_aload_n hx hb dX5_init_116 rfl (lv_at hl 0 rfl) ?_
  refine dk_new (h := z + 59) (ci := 0) (fs := [.null, .int 0, .int 0]) (C := RX0) (T := TX0) (N := 3) hx hb hts iX5_init_0 tyX0 tyX0_ok hown (hts (.classLink RX5 39 RX0) (List.mem_of_getElem? (i := 18) rfl)) (hts (.instantiable RX0 3) (List.mem_of_getElem? (i := 19) rfl)) (hts (.initialized RX0) (List.mem_of_getElem? (i := 20) rfl)) hK hS hz rfl dk_df0 (Nat.le_of_ble_eq_true rfl) (Nat.le_of_ble_eq_true rfl) dX5_init_117 (fun H h59 ho hz hS => ?_)
  have h0 := dk_kLt h0 ho (by decide)
  have r1 := r1.kLt ho (by decide)
  have hz : H.size = z + 60 := hz
  refine lv_dup hx hb dX5_init_120 rfl ?_
  refine dk_I (As := []) (rest := [.ref (z + 59), .ref (z + 0)]) ⟨hx, hb, hml, hown, hts⟩ (c_X0_init l g z) (cwI 0 hts gX5_init_X0_init rfl rfl rfl (hts (.initialized RX0) (List.mem_of_getElem? (i := 20) rfl)) (hts (.methodLink RX5 41 yX0_init) (List.mem_of_getElem? (i := 49) rfl)) (hts (.instanceMethod yX0_init) (List.mem_of_getElem? (i := 50) rfl)) rfl (by decide +kernel) ⟨Nat.le_of_ble_eq_true rfl, Nat.le_of_ble_eq_true rfl⟩) ⟨h59, hz⟩ hK hS (dk_Ale (by decide)) rfl hl.1 rfl (Nat.le_of_ble_eq_true rfl) dX5_init_121 ⟨Nat.le_of_ble_eq_true rfl, Nat.le_of_ble_eq_true rfl⟩ (fun H L hp ho hS => ?_)
  obtain ⟨r59, hz9⟩ := hp
  have h0 := dk_kCa h0 ho (by decide)
  have r1 := r1.kCa ho (by decide)
  have r1 := dkReg.app (b := 59) r1 r59
  have hz : H.size = z + 325 := hz9
  refine dk_putF0 (a := z + 0) (ci := 5) (C := RX5) (T := TX5) (N := 10) (v := .ref (z + 59)) (ty := .object "DogKings$Acts") hx hb hts iX5_init_5 tyX5 tyX5_ok nmX5 hown hK h0 hS (Nat.le_refl _) rfl 7 (by decide) (hts (.fieldLink RX5 42 "DogKings" "acts" "LDogKings$Acts;") (List.mem_of_getElem? (i := 21) rfl)) rfl hin rfl (by decide +kernel) rfl rfl (Nat.le_of_ble_eq_true rfl) dX5_init_124 (fun H L h0 ho hz1 hS => ?_)
  have h0 : va_at g.1 vwCl (z + 0, .inr (5, [.ref (z + 1), .ref (z + 10), .ref (z + 11), .int 0, .ref (z + 12), .ref (z + 25), .ref (z + 36), .ref (z + 59), .null, .null])) H := h0
  have r1 := r1.kNe ho (by decide)
  have hz : H.size = z + 325 := hz1.trans hz
  refine lv_aload_n hx hb dX5_init_127 rfl (lv_at hl 0 rfl) ?_
  refine dk_new (h := z + 325) (ci := 3) (fs := [.null, .null, .int 0, .null]) (C := RX3) (T := TX3) (N := 4) hx hb hts iX5_init_3 tyX3 tyX3_ok hown (hts (.classLink RX5 46 RX3) (List.mem_of_getElem? (i := 22) rfl)) (hts (.instantiable RX3 4) (List.mem_of_getElem? (i := 23) rfl)) (hts (.initialized RX3) (List.mem_of_getElem? (i := 24) rfl)) hK hS hz rfl dk_df3 (Nat.le_of_ble_eq_true rfl) (Nat.le_of_ble_eq_true rfl) dX5_init_128 (fun H h325 ho hz hS => ?_)
  have h0 := dk_kLt h0 ho (by decide)
  have r1 := r1.kLt ho (by decide)
  have hz : H.size = z + 326 := hz
  refine lv_dup hx hb dX5_init_131 rfl ?_
  refine lv_aload_n hx hb dX5_init_132 rfl (lv_at hl 0 rfl) ?_
  refine dk_get (k := 0) hx hb hts iX5_init_5 hown hK h0 rfl 5 (by decide) (hts (.fieldLink RX5 31 "DogKings" "now" "LDogKings$Town;") (List.mem_of_getElem? (i := 16) rfl)) rfl dX5_init_133 ?_
  refine dk_I (As := [.ref (z + 25)]) (rest := [.ref (z + 325), .ref (z + 0)]) ⟨hx, hb, hml, hown, hts⟩ (c_X3_init l g z) (cwI 1 hts gX5_init_X3_init rfl rfl rfl (hts (.initialized RX3) (List.mem_of_getElem? (i := 24) rfl)) (hts (.methodLink RX5 48 yX3_init) (List.mem_of_getElem? (i := 55) rfl)) (hts (.instanceMethod yX3_init) (List.mem_of_getElem? (i := 56) rfl)) rfl (by decide +kernel) ⟨Nat.le_of_ble_eq_true rfl, Nat.le_of_ble_eq_true rfl⟩) ⟨h325, hz⟩ hK hS (dk_Ale (by decide)) rfl hl.1 rfl (Nat.le_of_ble_eq_true rfl) dX5_init_136 ⟨Nat.le_of_ble_eq_true rfl, Nat.le_of_ble_eq_true rfl⟩ (fun H L hp ho hS => ?_)
  obtain ⟨r325, hz9⟩ := hp
  have h0 := dk_kCa h0 ho (by decide)
  have r1 := r1.kCa ho (by decide)
  have r1 := dkReg.app (b := 325) r1 r325
  have hz : H.size = z + 338 := hz9
  refine dk_putF0 (a := z + 0) (ci := 5) (C := RX5) (T := TX5) (N := 10) (v := .ref (z + 325)) (ty := .object "DogKings$Seer") hx hb hts iX5_init_5 tyX5 tyX5_ok nmX5 hown hK h0 hS (Nat.le_refl _) rfl 8 (by decide) (hts (.fieldLink RX5 51 "DogKings" "seer" "LDogKings$Seer;") (List.mem_of_getElem? (i := 25) rfl)) rfl hin rfl (by decide +kernel) rfl rfl (Nat.le_of_ble_eq_true rfl) dX5_init_139 (fun H L h0 ho hz1 hS => ?_)
  have h0 : va_at g.1 vwCl (z + 0, .inr (5, [.ref (z + 1), .ref (z + 10), .ref (z + 11), .int 0, .ref (z + 12), .ref (z + 25), .ref (z + 36), .ref (z + 59), .ref (z + 325), .null])) H := h0
  have r1 := r1.kNe ho (by decide)
  have hz : H.size = z + 338 := hz1.trans hz
  refine lv_aload_n hx hb dX5_init_142 rfl (lv_at hl 0 rfl) ?_
  refine dk_new (h := z + 338) (ci := 1) (fs := [.null, .null, .int 0]) (C := RX1) (T := TX1) (N := 3) hx hb hts iX5_init_1 tyX1 tyX1_ok hown (hts (.classLink RX5 55 RX1) (List.mem_of_getElem? (i := 26) rfl)) (hts (.instantiable RX1 3) (List.mem_of_getElem? (i := 27) rfl)) (hts (.initialized RX1) (List.mem_of_getElem? (i := 28) rfl)) hK hS hz rfl dk_df1 (Nat.le_of_ble_eq_true rfl) (Nat.le_of_ble_eq_true rfl) dX5_init_143 (fun H h338 ho hz hS => ?_)
  have h0 := dk_kLt h0 ho (by decide)
  have r1 := r1.kLt ho (by decide)
  have hz : H.size = z + 339 := hz
  refine lv_dup hx hb dX5_init_146 rfl ?_
  refine lv_aload_n hx hb dX5_init_147 rfl (lv_at hl 0 rfl) ?_
  refine dk_get (k := 0) hx hb hts iX5_init_5 hown hK h0 rfl 5 (by decide) (hts (.fieldLink RX5 31 "DogKings" "now" "LDogKings$Town;") (List.mem_of_getElem? (i := 16) rfl)) rfl dX5_init_148 ?_
  refine dk_I (As := [.ref (z + 25)]) (rest := [.ref (z + 338), .ref (z + 0)]) ⟨hx, hb, hml, hown, hts⟩ (c_X1_init l g z) (cwI 1 hts gX5_init_X1_init rfl rfl rfl (hts (.initialized RX1) (List.mem_of_getElem? (i := 28) rfl)) (hts (.methodLink RX5 57 yX1_init) (List.mem_of_getElem? (i := 63) rfl)) (hts (.instanceMethod yX1_init) (List.mem_of_getElem? (i := 64) rfl)) rfl (by decide +kernel) ⟨Nat.le_of_ble_eq_true rfl, Nat.le_of_ble_eq_true rfl⟩) ⟨h338, hz⟩ hK hS (dk_Ale (by decide)) rfl hl.1 rfl (Nat.le_of_ble_eq_true rfl) dX5_init_151 ⟨Nat.le_of_ble_eq_true rfl, Nat.le_of_ble_eq_true rfl⟩ (fun H L hp ho hS => ?_)
  obtain ⟨r338, hz9⟩ := hp
  have h0 := dk_kCa h0 ho (by decide)
  have r1 := r1.kCa ho (by decide)
  have r1 := dkReg.app (b := 338) r1 r338
  have hz : H.size = z + 340 := hz9
  refine dk_putF0 (a := z + 0) (ci := 5) (C := RX5) (T := TX5) (N := 10) (v := .ref (z + 338)) (ty := .object "DogKings$Asks") hx hb hts iX5_init_5 tyX5 tyX5_ok nmX5 hown hK h0 hS (Nat.le_refl _) rfl 9 (by decide) (hts (.fieldLink RX5 58 "DogKings" "asks" "LDogKings$Asks;") (List.mem_of_getElem? (i := 29) rfl)) rfl hin rfl (by decide +kernel) rfl rfl (Nat.le_of_ble_eq_true rfl) dX5_init_154 (fun H L h0 ho hz1 hS => ?_)
  have h0 : va_at g.1 vwCl (z + 0, .inr (5, [.ref (z + 1), .ref (z + 10), .ref (z + 11), .int 0, .ref (z + 12), .ref (z + 25), .ref (z + 36), .ref (z + 59), .ref (z + 325), .ref (z + 338)])) H := h0
  have r1 := r1.kNe ho (by decide)
  have hz : H.size = z + 340 := hz1.trans hz
  have hreg : dkReg g z 0 340 H := by
    exact (dkReg.app (b := 1) (dkReg.one (a := 0) h0) r1)
  have hfin : dkPost g z 0 (0 + 340) H := ⟨hreg, hz⟩
  exact W.vret hx hb hr (fun t9 ht9 hW9 => ⟨⟨(), rfl, trivial, dkPost_eq ht9 hfin⟩, hS.F ht9⟩) hS.2.2 dX5_init_157
set_option maxHeartbeats 4000000 in
set_option maxRecDepth 100000 in
theorem c_X6_init (l : Launch) (g : dkG) (z : Nat) : Met l yX6_init wsX6_init { frames := 1, cells := 13, slots := 2055, locals := 12 } (va_Pc [.ref (z + 340)] (fun U => dkPre g z 340 (.inr (6, [.null, .null, .null, .null, .int 0, .null, .int 0, .int 0, .int 0, .int 0, .int 0, .int 0, .int 0, .null, .null, .null, .null, .int 0, .null, .null, .int 0, .int 0, .int 0, .null, .null, .int 0])) U.heap ∧ dkK g U)) (va_Qv (S := Unit) (fun _ => True) (fun _ t9 => dkPost g z 340 (340 + 14) t9.heap) (dkA (z + 340))) 13 2055 (dkA (z + 340)) := by
  refine Met.ofW (cc := cX6_init) (maxL := 2) (ret := none) (by decide) rfl ?_
  intro p e s m args below meth c s₁ B hml hv
  obtain ⟨ha, ⟨h0, hz⟩, hK⟩ := hv
  have hx := B.exec
  have hb := B.bytes
  have hr := B.returns
  have hts := atoms_spec (ws := wsX6_init) B.pre
  have hown : s.vm.findClass RX6 = some m.cls := findClass_of_methodNamed B.named
  have hlocks := B.notSynchronized
  have hin : meth.name = "<init>" := (name_of_methodNamed B.named B.method).1
  have hS : va_S (dkA (z + 340)) s.heap s.heap [] := va_S.rf
  have hl := lv_entry ([.ref (z + 340)]) (n := 2) (Nat.le_of_ble_eq_true rfl)
  have hgo : entryFrame m args 2 = entryFrame m ([.ref (z + 340)] : List Value).toArray 2 := by rw [ha]
  rw [hgo, lg_entry_eq]
  generalize (lg_sl ([.ref (z + 340)]) ++ List.replicate (2 - (lg_sl ([.ref (z + 340)])).length) Slot.unset).toArray = ls at hl ⊢
  have hl : lv_has ls 2 [(0, .ref (z + 340))] := hl
  obtain ⟨H, hH⟩ : ∃ H, H = s.heap := ⟨_, rfl⟩
  have h0 : va_at g.1 vwCl (z + 340, .inr (6, [.null, .null, .null, .null, .int 0, .null, .int 0, .int 0, .int 0, .int 0, .int 0, .int 0, .int 0, .null, .null, .null, .null, .int 0, .null, .null, .int 0, .int 0, .int 0, .null, .null, .int 0])) H := by rw [hH]; exact h0
  have hz : H.size = z + 341 := by rw [hH]; exact hz
  have hz0 : H.size = z + 341 := hz
  have hS : va_S (dkA (z + 340)) s.heap H [] := by rw [hH]; exact va_S.rf
  refine dk_heap hH ?_
  have hloop : ∀ (k i : Nat), i + k = 8 → ∀ (x1 : Int32) (H : Heap) (L : List Loc) (ls : Array Slot), x1.toInt = (i : Int) → va_at g.1 vwCl (z + 340, .inr (6, [.ref (z + 341), .ref (z + 342), .ref (z + 343), .ref (z + 344), .int 0, .ref (z + 345), .int 0, .int 0, .int 0, .int 0, .int 0, .int 0, .int 0, .ref (z + 346), .ref (z + 347), .ref (z + 348), .ref (z + 349), .int 0, .ref (z + 350), .ref (z + 351), .int 0, .int 0, .int 0, .ref (z + 352), .ref (z + 353), .int 0])) H → va_at g.1 vwCl (z + 341, dkArr g.2.1 8 (fun j => if j < i then -1000000 else 0)) H → dkReg g z 342 354 H → H.size = z + 354 → va_S (dkA (z + 340)) s.heap H L → lv_has ls 2 [(1, .int x1), (0, .ref (z + 340))] → W p l e (headSpec wsX6_init { frames := 1, cells := 13, slots := 2055, locals := 12 }).room s m args below meth c H L 13 2055 (MQ below (va_Qv (S := Unit) (fun _ => True) (fun _ t9 => dkPost g z 340 (340 + 14) t9.heap) (dkA (z + 340))) args s 13 2055 (dkA (z + 340))) (F0 m 110 ls []) := by
    intro k
    induction k with
    | zero =>
      intro i hi x1 H L ls ex h0 h1 hR hz hS hl
      have ei : i = 8 := by omega
      subst ei
      refine lv_iload_n hx hb dX6_init_110 rfl (lv_at hl 0 rfl) ?_
      refine lv_bipush (v := 8) hx hb dX6_init_111 (by decide) ?_
      refine lv_icmp_ge (tgt := 130) hx hb dX6_init_113 (by decide) (fun c1 => ?_) (fun c1 => ?_)
      · have hreg : dkReg g z 340 354 H := dkReg.app (b := 341) (dkReg.one (a := 340) h0) (dkReg.app (b := 342) (dkReg.one (a := 341) (dk_arr_ext (f' := dkI0 341) (fun j hj => by rw [if_pos hj]; rfl) h1)) hR)
        have hfin : dkPost g z 340 (340 + 14) H := ⟨hreg, hz⟩
        exact W.vret hx hb hr (fun t9 ht9 hW9 => ⟨⟨(), rfl, trivial, dkPost_eq ht9 hfin⟩, hS.F ht9⟩) hS.2.2 dX6_init_130
      · have := dk_nle c1
        rw [ex] at this
        exact absurd this (by decide)
    | succ k ih =>
      intro i hi x1 H L ls ex h0 h1 hR hz hS hl
      refine lv_iload_n hx hb dX6_init_110 rfl (lv_at hl 0 rfl) ?_
      refine lv_bipush (v := 8) hx hb dX6_init_111 (by decide) ?_
      refine lv_icmp_ge (tgt := 130) hx hb dX6_init_113 (by decide) (fun c1 => ?_) (fun c1 => ?_)
      · have h9 := dk_le c1
        rw [ex] at h9
        have h8 : (8 : Int32).toInt = 8 := rfl
        omega
      · refine lv_aload_n hx hb dX6_init_116 rfl (lv_at hl 1 rfl) ?_
        refine dk_get (k := 340) hx hb hts iX6_init_6 hown hK h0 rfl 0 (by decide) (hts (.fieldLink RX6 7 "DogKingsModel" "lane" "[I") (List.mem_of_getElem? (i := 5) rfl)) rfl dX6_init_117 ?_
        refine lv_iload_n hx hb dX6_init_120 rfl (lv_at hl 0 rfl) ?_
        refine lv_ldc (v := -1000000) hx hb hown (hts (.constant RX6 50 (-1000000)) (List.mem_of_getElem? (i := 19) rfl)) dX6_init_121 ?_
        have ej : x1.toNatClampNeg = i := by have h7 : x1.toNatClampNeg = x1.toInt.toNat := rfl; omega
        refine dk_ist0 (a := z + 341) (A := dkA (z + 340)) hx hb hK h1 hS (by show z + 340 ≤ _; omega) (vp_in_iff.mpr ⟨by omega, by omega⟩) dX6_init_123 (fun H L h1 ho hz1 hS => ?_)
        have h0 := h0.kept (ho _ (by omega))
        have hR := hR.kept (fun k q1 q2 => ho _ (by omega))
        have ef : dkV (fun j => if j < i then -1000000 else 0) x1.toNatClampNeg (-1000000) = (fun j => if j < i + 1 then -1000000 else 0) := by
          rw [ej]
          funext j
          by_cases hj : j = i
          · subst hj
            rw [dkV, if_pos rfl, if_pos (by omega)]
          · rw [dkV, if_neg hj]
            by_cases h2 : j < i
            · rw [if_pos h2, if_pos (by omega)]
            · rw [if_neg h2, if_neg (by omega)]
        rw [ef] at h1
        obtain ⟨x2, ex2⟩ : ∃ y : Int32, y = x1 + 1 := ⟨_, rfl⟩
        have e2 : x2.toInt = ((i + 1 : Nat) : Int) := by rw [ex2, Int32.toInt_add]; rw [ex]; show Int.bmod ((i : Int) + 1) _ = _; rw [dk_bm (by omega) (by omega)]; omega
        refine lv_iinc (v := x2) (lv' := [(1, .int x2), (0, .ref (z + 340))]) hx hb dX6_init_124 hl (k := 0) rfl (by rw [ex2]; rfl) (by decide) rfl (fun ls hl => ?_)
        refine lv_goto (tgt := 110) hx hb dX6_init_127 (by decide) ?_
        exact ih (i + 1) (by omega) x2 H L ls e2 h0 h1 hR (by rw [hz1, hz]) hS hl
  refine lv_aload_n hx hb dX6_init_0 rfl (lv_at hl 0 rfl) ?_
  refine W.objInit hx hb hown (hts (.methodLink RX6 1 objectInit) (List.mem_of_getElem? (i := 1) rfl)) (hts (.instanceMethod objectInit) (List.mem_of_getElem? (i := 2) rfl)) (hts _ (List.mem_of_getElem? (i := 3) rfl)) rfl (by rw [hml]; exact hl.1) rfl dX6_init_1 (Nat.le_of_ble_eq_true rfl) (Nat.le_of_ble_eq_true rfl) ?_
  refine W.eq (g2 := F0 m 4 ls []) rfl ?_
  refine lv_aload_n hx hb dX6_init_4 rfl (lv_at hl 0 rfl) ?_
  refine lv_bipush (v := 8) hx hb dX6_init_5 (by decide) ?_
  refine dk_newa (h := z + 341) (N := 8) hx hb (hts (.arrayClass .int) (List.mem_of_getElem? (i := 4) rfl)) hK hS hz (by decide) rfl (by decide) (Nat.le_of_ble_eq_true rfl) (Nat.le_of_ble_eq_true rfl) dX6_init_7 (fun H h1 ho hz hS => ?_)
  have h0 := dk_kLt h0 ho (by decide)
  have hz : H.size = z + 342 := hz
  refine dk_putF0 (a := z + 340) (ci := 6) (C := RX6) (T := TX6) (N := 26) (v := .ref (z + 341)) (ty := .array .int) hx hb hts iX6_init_6 tyX6 tyX6_ok nmX6 hown hK h0 hS (Nat.le_refl _) rfl 0 (by decide) (hts (.fieldLink RX6 7 "DogKingsModel" "lane" "[I") (List.mem_of_getElem? (i := 5) rfl)) rfl hin rfl (by decide +kernel) rfl rfl (Nat.le_of_ble_eq_true rfl) dX6_init_9 (fun H L h0 ho hz1 hS => ?_)
  have h0 : va_at g.1 vwCl (z + 340, .inr (6, [.ref (z + 341), .null, .null, .null, .int 0, .null, .int 0, .int 0, .int 0, .int 0, .int 0, .int 0, .int 0, .null, .null, .null, .null, .int 0, .null, .null, .int 0, .int 0, .int 0, .null, .null, .int 0])) H := h0
  have h1 := dk_kNe h1 ho (by decide)
  have hz : H.size = z + 342 := hz1.trans hz
  refine lv_aload_n hx hb dX6_init_12 rfl (lv_at hl 0 rfl) ?_
  refine lv_bipush (v := 8) hx hb dX6_init_13 (by decide) ?_
  refine dk_newa (h := z + 342) (N := 8) hx hb (hts (.arrayClass .int) (List.mem_of_getElem? (i := 4) rfl)) hK hS hz (by decide) rfl (by decide) (Nat.le_of_ble_eq_true rfl) (Nat.le_of_ble_eq_true rfl) dX6_init_15 (fun H h2 ho hz hS => ?_)
  have h0 := dk_kLt h0 ho (by decide)
  have h1 := dk_kLt h1 ho (by decide)
  have hz : H.size = z + 343 := hz
  refine dk_putF0 (a := z + 340) (ci := 6) (C := RX6) (T := TX6) (N := 26) (v := .ref (z + 342)) (ty := .array .int) hx hb hts iX6_init_6 tyX6 tyX6_ok nmX6 hown hK h0 hS (Nat.le_refl _) rfl 1 (by decide) (hts (.fieldLink RX6 13 "DogKingsModel" "many" "[I") (List.mem_of_getElem? (i := 6) rfl)) rfl hin rfl (by decide +kernel) rfl rfl (Nat.le_of_ble_eq_true rfl) dX6_init_17 (fun H L h0 ho hz1 hS => ?_)
  have h0 : va_at g.1 vwCl (z + 340, .inr (6, [.ref (z + 341), .ref (z + 342), .null, .null, .int 0, .null, .int 0, .int 0, .int 0, .int 0, .int 0, .int 0, .int 0, .null, .null, .null, .null, .int 0, .null, .null, .int 0, .int 0, .int 0, .null, .null, .int 0])) H := h0
  have h1 := dk_kNe h1 ho (by decide)
  have h2 := dk_kNe h2 ho (by decide)
  have hz : H.size = z + 343 := hz1.trans hz
  refine lv_aload_n hx hb dX6_init_20 rfl (lv_at hl 0 rfl) ?_
  refine lv_sipush (v := 320) hx hb dX6_init_21 (by decide) ?_
  refine dk_newa (h := z + 343) (N := 320) hx hb (hts (.arrayClass .int) (List.mem_of_getElem? (i := 4) rfl)) hK hS hz (by decide) rfl (by decide) (Nat.le_of_ble_eq_true rfl) (Nat.le_of_ble_eq_true rfl) dX6_init_24 (fun H h3 ho hz hS => ?_)
  have h0 := dk_kLt h0 ho (by decide)
  have h1 := dk_kLt h1 ho (by decide)
  have h2 := dk_kLt h2 ho (by decide)
  have hz : H.size = z + 344 := hz
  refine dk_putF0 (a := z + 340) (ci := 6) (C := RX6) (T := TX6) (N := 26) (v := .ref (z + 343)) (ty := .array .int) hx hb hts iX6_init_6 tyX6 tyX6_ok nmX6 hown hK h0 hS (Nat.le_refl _) rfl 2 (by decide) (hts (.fieldLink RX6 16 "DogKingsModel" "items" "[I") (List.mem_of_getElem? (i := 7) rfl)) rfl hin rfl (by decide +kernel) rfl rfl (Nat.le_of_ble_eq_true rfl) dX6_init_26 (fun H L h0 ho hz1 hS => ?_)
  have h0 : va_at g.1 vwCl (z + 340, .inr (6, [.ref (z + 341), .ref (z + 342), .ref (z + 343), .null, .int 0, .null, .int 0, .int 0, .int 0, .int 0, .int 0, .int 0, .int 0, .null, .null, .null, .null, .int 0, .null, .null, .int 0, .int 0, .int 0, .null, .null, .int 0])) H := h0
  have h1 := dk_kNe h1 ho (by decide)
  have h2 := dk_kNe h2 ho (by decide)
  have h3 := dk_kNe h3 ho (by decide)
  have hz : H.size = z + 344 := hz1.trans hz
  refine lv_aload_n hx hb dX6_init_29 rfl (lv_at hl 0 rfl) ?_
  refine lv_bipush (v := 40) hx hb dX6_init_30 (by decide) ?_
  refine dk_newa (h := z + 344) (N := 40) hx hb (hts (.arrayClass .int) (List.mem_of_getElem? (i := 4) rfl)) hK hS hz (by decide) rfl (by decide) (Nat.le_of_ble_eq_true rfl) (Nat.le_of_ble_eq_true rfl) dX6_init_32 (fun H h4 ho hz hS => ?_)
  have h0 := dk_kLt h0 ho (by decide)
  have h1 := dk_kLt h1 ho (by decide)
  have h2 := dk_kLt h2 ho (by decide)
  have h3 := dk_kLt h3 ho (by decide)
  have hz : H.size = z + 345 := hz
  refine dk_putF0 (a := z + 340) (ci := 6) (C := RX6) (T := TX6) (N := 26) (v := .ref (z + 344)) (ty := .array .int) hx hb hts iX6_init_6 tyX6 tyX6_ok nmX6 hown hK h0 hS (Nat.le_refl _) rfl 3 (by decide) (hts (.fieldLink RX6 19 "DogKingsModel" "spare" "[I") (List.mem_of_getElem? (i := 8) rfl)) rfl hin rfl (by decide +kernel) rfl rfl (Nat.le_of_ble_eq_true rfl) dX6_init_34 (fun H L h0 ho hz1 hS => ?_)
  have h0 : va_at g.1 vwCl (z + 340, .inr (6, [.ref (z + 341), .ref (z + 342), .ref (z + 343), .ref (z + 344), .int 0, .null, .int 0, .int 0, .int 0, .int 0, .int 0, .int 0, .int 0, .null, .null, .null, .null, .int 0, .null, .null, .int 0, .int 0, .int 0, .null, .null, .int 0])) H := h0
  have h1 := dk_kNe h1 ho (by decide)
  have h2 := dk_kNe h2 ho (by decide)
  have h3 := dk_kNe h3 ho (by decide)
  have h4 := dk_kNe h4 ho (by decide)
  have hz : H.size = z + 345 := hz1.trans hz
  refine lv_aload_n hx hb dX6_init_37 rfl (lv_at hl 0 rfl) ?_
  refine lv_bipush (v := 90) hx hb dX6_init_38 (by decide) ?_
  refine dk_newa (h := z + 345) (N := 90) hx hb (hts (.arrayClass .int) (List.mem_of_getElem? (i := 4) rfl)) hK hS hz (by decide) rfl (by decide) (Nat.le_of_ble_eq_true rfl) (Nat.le_of_ble_eq_true rfl) dX6_init_40 (fun H h5 ho hz hS => ?_)
  have h0 := dk_kLt h0 ho (by decide)
  have h1 := dk_kLt h1 ho (by decide)
  have h2 := dk_kLt h2 ho (by decide)
  have h3 := dk_kLt h3 ho (by decide)
  have h4 := dk_kLt h4 ho (by decide)
  have hz : H.size = z + 346 := hz
  refine dk_putF0 (a := z + 340) (ci := 6) (C := RX6) (T := TX6) (N := 26) (v := .ref (z + 345)) (ty := .array .int) hx hb hts iX6_init_6 tyX6 tyX6_ok nmX6 hown hK h0 hS (Nat.le_refl _) rfl 5 (by decide) (hts (.fieldLink RX6 22 "DogKingsModel" "tape" "[I") (List.mem_of_getElem? (i := 9) rfl)) rfl hin rfl (by decide +kernel) rfl rfl (Nat.le_of_ble_eq_true rfl) dX6_init_42 (fun H L h0 ho hz1 hS => ?_)
  have h0 : va_at g.1 vwCl (z + 340, .inr (6, [.ref (z + 341), .ref (z + 342), .ref (z + 343), .ref (z + 344), .int 0, .ref (z + 345), .int 0, .int 0, .int 0, .int 0, .int 0, .int 0, .int 0, .null, .null, .null, .null, .int 0, .null, .null, .int 0, .int 0, .int 0, .null, .null, .int 0])) H := h0
  have h1 := dk_kNe h1 ho (by decide)
  have h2 := dk_kNe h2 ho (by decide)
  have h3 := dk_kNe h3 ho (by decide)
  have h4 := dk_kNe h4 ho (by decide)
  have h5 := dk_kNe h5 ho (by decide)
  have hz : H.size = z + 346 := hz1.trans hz
  refine lv_aload_n hx hb dX6_init_45 rfl (lv_at hl 0 rfl) ?_
  refine lv_bipush (v := 54) hx hb dX6_init_46 (by decide) ?_
  refine dk_newa (h := z + 346) (N := 54) hx hb (hts (.arrayClass .int) (List.mem_of_getElem? (i := 4) rfl)) hK hS hz (by decide) rfl (by decide) (Nat.le_of_ble_eq_true rfl) (Nat.le_of_ble_eq_true rfl) dX6_init_48 (fun H h6 ho hz hS => ?_)
  have h0 := dk_kLt h0 ho (by decide)
  have h1 := dk_kLt h1 ho (by decide)
  have h2 := dk_kLt h2 ho (by decide)
  have h3 := dk_kLt h3 ho (by decide)
  have h4 := dk_kLt h4 ho (by decide)
  have h5 := dk_kLt h5 ho (by decide)
  have hz : H.size = z + 347 := hz
  refine dk_putF0 (a := z + 340) (ci := 6) (C := RX6) (T := TX6) (N := 26) (v := .ref (z + 346)) (ty := .array .int) hx hb hts iX6_init_6 tyX6 tyX6_ok nmX6 hown hK h0 hS (Nat.le_refl _) rfl 13 (by decide) (hts (.fieldLink RX6 25 "DogKingsModel" "now" "[I") (List.mem_of_getElem? (i := 10) rfl)) rfl hin rfl (by decide +kernel) rfl rfl (Nat.le_of_ble_eq_true rfl) dX6_init_50 (fun H L h0 ho hz1 hS => ?_)
  have h0 : va_at g.1 vwCl (z + 340, .inr (6, [.ref (z + 341), .ref (z + 342), .ref (z + 343), .ref (z + 344), .int 0, .ref (z + 345), .int 0, .int 0, .int 0, .int 0, .int 0, .int 0, .int 0, .ref (z + 346), .null, .null, .null, .int 0, .null, .null, .int 0, .int 0, .int 0, .null, .null, .int 0])) H := h0
  have h1 := dk_kNe h1 ho (by decide)
  have h2 := dk_kNe h2 ho (by decide)
  have h3 := dk_kNe h3 ho (by decide)
  have h4 := dk_kNe h4 ho (by decide)
  have h5 := dk_kNe h5 ho (by decide)
  have h6 := dk_kNe h6 ho (by decide)
  have hz : H.size = z + 347 := hz1.trans hz
  refine lv_aload_n hx hb dX6_init_53 rfl (lv_at hl 0 rfl) ?_
  refine lv_bipush (v := 54) hx hb dX6_init_54 (by decide) ?_
  refine dk_newa (h := z + 347) (N := 54) hx hb (hts (.arrayClass .int) (List.mem_of_getElem? (i := 4) rfl)) hK hS hz (by decide) rfl (by decide) (Nat.le_of_ble_eq_true rfl) (Nat.le_of_ble_eq_true rfl) dX6_init_56 (fun H h7 ho hz hS => ?_)
  have h0 := dk_kLt h0 ho (by decide)
  have h1 := dk_kLt h1 ho (by decide)
  have h2 := dk_kLt h2 ho (by decide)
  have h3 := dk_kLt h3 ho (by decide)
  have h4 := dk_kLt h4 ho (by decide)
  have h5 := dk_kLt h5 ho (by decide)
  have h6 := dk_kLt h6 ho (by decide)
  have hz : H.size = z + 348 := hz
  refine dk_putF0 (a := z + 340) (ci := 6) (C := RX6) (T := TX6) (N := 26) (v := .ref (z + 347)) (ty := .array .int) hx hb hts iX6_init_6 tyX6 tyX6_ok nmX6 hown hK h0 hS (Nat.le_refl _) rfl 14 (by decide) (hts (.fieldLink RX6 28 "DogKingsModel" "draft" "[I") (List.mem_of_getElem? (i := 11) rfl)) rfl hin rfl (by decide +kernel) rfl rfl (Nat.le_of_ble_eq_true rfl) dX6_init_58 (fun H L h0 ho hz1 hS => ?_)
  have h0 : va_at g.1 vwCl (z + 340, .inr (6, [.ref (z + 341), .ref (z + 342), .ref (z + 343), .ref (z + 344), .int 0, .ref (z + 345), .int 0, .int 0, .int 0, .int 0, .int 0, .int 0, .int 0, .ref (z + 346), .ref (z + 347), .null, .null, .int 0, .null, .null, .int 0, .int 0, .int 0, .null, .null, .int 0])) H := h0
  have h1 := dk_kNe h1 ho (by decide)
  have h2 := dk_kNe h2 ho (by decide)
  have h3 := dk_kNe h3 ho (by decide)
  have h4 := dk_kNe h4 ho (by decide)
  have h5 := dk_kNe h5 ho (by decide)
  have h6 := dk_kNe h6 ho (by decide)
  have h7 := dk_kNe h7 ho (by decide)
  have hz : H.size = z + 348 := hz1.trans hz
  refine lv_aload_n hx hb dX6_init_61 rfl (lv_at hl 0 rfl) ?_
  refine lv_bipush (v := 54) hx hb dX6_init_62 (by decide) ?_
  refine dk_newa (h := z + 348) (N := 54) hx hb (hts (.arrayClass .int) (List.mem_of_getElem? (i := 4) rfl)) hK hS hz (by decide) rfl (by decide) (Nat.le_of_ble_eq_true rfl) (Nat.le_of_ble_eq_true rfl) dX6_init_64 (fun H h8 ho hz hS => ?_)
  have h0 := dk_kLt h0 ho (by decide)
  have h1 := dk_kLt h1 ho (by decide)
  have h2 := dk_kLt h2 ho (by decide)
  have h3 := dk_kLt h3 ho (by decide)
  have h4 := dk_kLt h4 ho (by decide)
  have h5 := dk_kLt h5 ho (by decide)
  have h6 := dk_kLt h6 ho (by decide)
  have h7 := dk_kLt h7 ho (by decide)
  have hz : H.size = z + 349 := hz
  refine dk_putF0 (a := z + 340) (ci := 6) (C := RX6) (T := TX6) (N := 26) (v := .ref (z + 348)) (ty := .array .int) hx hb hts iX6_init_6 tyX6 tyX6_ok nmX6 hown hK h0 hS (Nat.le_refl _) rfl 15 (by decide) (hts (.fieldLink RX6 31 "DogKingsModel" "tried" "[I") (List.mem_of_getElem? (i := 12) rfl)) rfl hin rfl (by decide +kernel) rfl rfl (Nat.le_of_ble_eq_true rfl) dX6_init_66 (fun H L h0 ho hz1 hS => ?_)
  have h0 : va_at g.1 vwCl (z + 340, .inr (6, [.ref (z + 341), .ref (z + 342), .ref (z + 343), .ref (z + 344), .int 0, .ref (z + 345), .int 0, .int 0, .int 0, .int 0, .int 0, .int 0, .int 0, .ref (z + 346), .ref (z + 347), .ref (z + 348), .null, .int 0, .null, .null, .int 0, .int 0, .int 0, .null, .null, .int 0])) H := h0
  have h1 := dk_kNe h1 ho (by decide)
  have h2 := dk_kNe h2 ho (by decide)
  have h3 := dk_kNe h3 ho (by decide)
  have h4 := dk_kNe h4 ho (by decide)
  have h5 := dk_kNe h5 ho (by decide)
  have h6 := dk_kNe h6 ho (by decide)
  have h7 := dk_kNe h7 ho (by decide)
  have h8 := dk_kNe h8 ho (by decide)
  have hz : H.size = z + 349 := hz1.trans hz
  refine lv_aload_n hx hb dX6_init_69 rfl (lv_at hl 0 rfl) ?_
  refine lv_sipush (v := 1296) hx hb dX6_init_70 (by decide) ?_
  refine dk_newa (h := z + 349) (N := 1296) hx hb (hts (.arrayClass .int) (List.mem_of_getElem? (i := 4) rfl)) hK hS hz (by decide) rfl (by decide) (Nat.le_of_ble_eq_true rfl) (Nat.le_of_ble_eq_true rfl) dX6_init_73 (fun H h9 ho hz hS => ?_)
  have h0 := dk_kLt h0 ho (by decide)
  have h1 := dk_kLt h1 ho (by decide)
  have h2 := dk_kLt h2 ho (by decide)
  have h3 := dk_kLt h3 ho (by decide)
  have h4 := dk_kLt h4 ho (by decide)
  have h5 := dk_kLt h5 ho (by decide)
  have h6 := dk_kLt h6 ho (by decide)
  have h7 := dk_kLt h7 ho (by decide)
  have h8 := dk_kLt h8 ho (by decide)
  have hz : H.size = z + 350 := hz
  refine dk_putF0 (a := z + 340) (ci := 6) (C := RX6) (T := TX6) (N := 26) (v := .ref (z + 349)) (ty := .array .int) hx hb hts iX6_init_6 tyX6 tyX6_ok nmX6 hown hK h0 hS (Nat.le_refl _) rfl 16 (by decide) (hts (.fieldLink RX6 34 "DogKingsModel" "past" "[I") (List.mem_of_getElem? (i := 13) rfl)) rfl hin rfl (by decide +kernel) rfl rfl (Nat.le_of_ble_eq_true rfl) dX6_init_75 (fun H L h0 ho hz1 hS => ?_)
  have h0 : va_at g.1 vwCl (z + 340, .inr (6, [.ref (z + 341), .ref (z + 342), .ref (z + 343), .ref (z + 344), .int 0, .ref (z + 345), .int 0, .int 0, .int 0, .int 0, .int 0, .int 0, .int 0, .ref (z + 346), .ref (z + 347), .ref (z + 348), .ref (z + 349), .int 0, .null, .null, .int 0, .int 0, .int 0, .null, .null, .int 0])) H := h0
  have h1 := dk_kNe h1 ho (by decide)
  have h2 := dk_kNe h2 ho (by decide)
  have h3 := dk_kNe h3 ho (by decide)
  have h4 := dk_kNe h4 ho (by decide)
  have h5 := dk_kNe h5 ho (by decide)
  have h6 := dk_kNe h6 ho (by decide)
  have h7 := dk_kNe h7 ho (by decide)
  have h8 := dk_kNe h8 ho (by decide)
  have h9 := dk_kNe h9 ho (by decide)
  have hz : H.size = z + 350 := hz1.trans hz
  refine lv_aload_n hx hb dX6_init_78 rfl (lv_at hl 0 rfl) ?_
  refine lv_bipush (v := 108) hx hb dX6_init_79 (by decide) ?_
  refine dk_newa (h := z + 350) (N := 108) hx hb (hts (.arrayClass .int) (List.mem_of_getElem? (i := 4) rfl)) hK hS hz (by decide) rfl (by decide) (Nat.le_of_ble_eq_true rfl) (Nat.le_of_ble_eq_true rfl) dX6_init_81 (fun H h10 ho hz hS => ?_)
  have h0 := dk_kLt h0 ho (by decide)
  have h1 := dk_kLt h1 ho (by decide)
  have h2 := dk_kLt h2 ho (by decide)
  have h3 := dk_kLt h3 ho (by decide)
  have h4 := dk_kLt h4 ho (by decide)
  have h5 := dk_kLt h5 ho (by decide)
  have h6 := dk_kLt h6 ho (by decide)
  have h7 := dk_kLt h7 ho (by decide)
  have h8 := dk_kLt h8 ho (by decide)
  have h9 := dk_kLt h9 ho (by decide)
  have hz : H.size = z + 351 := hz
  refine dk_putF0 (a := z + 340) (ci := 6) (C := RX6) (T := TX6) (N := 26) (v := .ref (z + 350)) (ty := .array .int) hx hb hts iX6_init_6 tyX6 tyX6_ok nmX6 hown hK h0 hS (Nat.le_refl _) rfl 18 (by decide) (hts (.fieldLink RX6 37 "DogKingsModel" "images" "[I") (List.mem_of_getElem? (i := 14) rfl)) rfl hin rfl (by decide +kernel) rfl rfl (Nat.le_of_ble_eq_true rfl) dX6_init_83 (fun H L h0 ho hz1 hS => ?_)
  have h0 : va_at g.1 vwCl (z + 340, .inr (6, [.ref (z + 341), .ref (z + 342), .ref (z + 343), .ref (z + 344), .int 0, .ref (z + 345), .int 0, .int 0, .int 0, .int 0, .int 0, .int 0, .int 0, .ref (z + 346), .ref (z + 347), .ref (z + 348), .ref (z + 349), .int 0, .ref (z + 350), .null, .int 0, .int 0, .int 0, .null, .null, .int 0])) H := h0
  have h1 := dk_kNe h1 ho (by decide)
  have h2 := dk_kNe h2 ho (by decide)
  have h3 := dk_kNe h3 ho (by decide)
  have h4 := dk_kNe h4 ho (by decide)
  have h5 := dk_kNe h5 ho (by decide)
  have h6 := dk_kNe h6 ho (by decide)
  have h7 := dk_kNe h7 ho (by decide)
  have h8 := dk_kNe h8 ho (by decide)
  have h9 := dk_kNe h9 ho (by decide)
  have h10 := dk_kNe h10 ho (by decide)
  have hz : H.size = z + 351 := hz1.trans hz
  refine lv_aload_n hx hb dX6_init_86 rfl (lv_at hl 0 rfl) ?_
  refine lv_iconst (v := 2) hx hb dX6_init_87 (by decide) ?_
  refine dk_newz (h := z + 351) (N := 2) hx hb (hts (.arrayClass .boolean) (List.mem_of_getElem? (i := 15) rfl)) hK hS hz (by decide) rfl (by decide) (Nat.le_of_ble_eq_true rfl) (Nat.le_of_ble_eq_true rfl) dX6_init_88 (fun H h11 ho hz hS => ?_)
  have h0 := dk_kLt h0 ho (by decide)
  have h1 := dk_kLt h1 ho (by decide)
  have h2 := dk_kLt h2 ho (by decide)
  have h3 := dk_kLt h3 ho (by decide)
  have h4 := dk_kLt h4 ho (by decide)
  have h5 := dk_kLt h5 ho (by decide)
  have h6 := dk_kLt h6 ho (by decide)
  have h7 := dk_kLt h7 ho (by decide)
  have h8 := dk_kLt h8 ho (by decide)
  have h9 := dk_kLt h9 ho (by decide)
  have h10 := dk_kLt h10 ho (by decide)
  have hz : H.size = z + 352 := hz
  refine dk_putF0 (a := z + 340) (ci := 6) (C := RX6) (T := TX6) (N := 26) (v := .ref (z + 351)) (ty := .array .boolean) hx hb hts iX6_init_6 tyX6 tyX6_ok nmX6 hown hK h0 hS (Nat.le_refl _) rfl 19 (by decide) (hts (.fieldLink RX6 40 "DogKingsModel" "kept" "[Z") (List.mem_of_getElem? (i := 16) rfl)) rfl hin rfl (by decide +kernel) rfl rfl (Nat.le_of_ble_eq_true rfl) dX6_init_90 (fun H L h0 ho hz1 hS => ?_)
  have h0 : va_at g.1 vwCl (z + 340, .inr (6, [.ref (z + 341), .ref (z + 342), .ref (z + 343), .ref (z + 344), .int 0, .ref (z + 345), .int 0, .int 0, .int 0, .int 0, .int 0, .int 0, .int 0, .ref (z + 346), .ref (z + 347), .ref (z + 348), .ref (z + 349), .int 0, .ref (z + 350), .ref (z + 351), .int 0, .int 0, .int 0, .null, .null, .int 0])) H := h0
  have h1 := dk_kNe h1 ho (by decide)
  have h2 := dk_kNe h2 ho (by decide)
  have h3 := dk_kNe h3 ho (by decide)
  have h4 := dk_kNe h4 ho (by decide)
  have h5 := dk_kNe h5 ho (by decide)
  have h6 := dk_kNe h6 ho (by decide)
  have h7 := dk_kNe h7 ho (by decide)
  have h8 := dk_kNe h8 ho (by decide)
  have h9 := dk_kNe h9 ho (by decide)
  have h10 := dk_kNe h10 ho (by decide)
  have h11 := dk_kNe h11 ho (by decide)
  have hz : H.size = z + 352 := hz1.trans hz
  refine lv_aload_n hx hb dX6_init_93 rfl (lv_at hl 0 rfl) ?_
  refine lv_iconst (v := 5) hx hb dX6_init_94 (by decide) ?_
  refine dk_newa (h := z + 352) (N := 5) hx hb (hts (.arrayClass .int) (List.mem_of_getElem? (i := 4) rfl)) hK hS hz (by decide) rfl (by decide) (Nat.le_of_ble_eq_true rfl) (Nat.le_of_ble_eq_true rfl) dX6_init_95 (fun H h12 ho hz hS => ?_)
  have h0 := dk_kLt h0 ho (by decide)
  have h1 := dk_kLt h1 ho (by decide)
  have h2 := dk_kLt h2 ho (by decide)
  have h3 := dk_kLt h3 ho (by decide)
  have h4 := dk_kLt h4 ho (by decide)
  have h5 := dk_kLt h5 ho (by decide)
  have h6 := dk_kLt h6 ho (by decide)
  have h7 := dk_kLt h7 ho (by decide)
  have h8 := dk_kLt h8 ho (by decide)
  have h9 := dk_kLt h9 ho (by decide)
  have h10 := dk_kLt h10 ho (by decide)
  have h11 := dk_kLt h11 ho (by decide)
  have hz : H.size = z + 353 := hz
  refine dk_putF0 (a := z + 340) (ci := 6) (C := RX6) (T := TX6) (N := 26) (v := .ref (z + 352)) (ty := .array .int) hx hb hts iX6_init_6 tyX6 tyX6_ok nmX6 hown hK h0 hS (Nat.le_refl _) rfl 23 (by decide) (hts (.fieldLink RX6 44 "DogKingsModel" "crowns" "[I") (List.mem_of_getElem? (i := 17) rfl)) rfl hin rfl (by decide +kernel) rfl rfl (Nat.le_of_ble_eq_true rfl) dX6_init_97 (fun H L h0 ho hz1 hS => ?_)
  have h0 : va_at g.1 vwCl (z + 340, .inr (6, [.ref (z + 341), .ref (z + 342), .ref (z + 343), .ref (z + 344), .int 0, .ref (z + 345), .int 0, .int 0, .int 0, .int 0, .int 0, .int 0, .int 0, .ref (z + 346), .ref (z + 347), .ref (z + 348), .ref (z + 349), .int 0, .ref (z + 350), .ref (z + 351), .int 0, .int 0, .int 0, .ref (z + 352), .null, .int 0])) H := h0
  have h1 := dk_kNe h1 ho (by decide)
  have h2 := dk_kNe h2 ho (by decide)
  have h3 := dk_kNe h3 ho (by decide)
  have h4 := dk_kNe h4 ho (by decide)
  have h5 := dk_kNe h5 ho (by decide)
  have h6 := dk_kNe h6 ho (by decide)
  have h7 := dk_kNe h7 ho (by decide)
  have h8 := dk_kNe h8 ho (by decide)
  have h9 := dk_kNe h9 ho (by decide)
  have h10 := dk_kNe h10 ho (by decide)
  have h11 := dk_kNe h11 ho (by decide)
  have h12 := dk_kNe h12 ho (by decide)
  have hz : H.size = z + 353 := hz1.trans hz
  refine lv_aload_n hx hb dX6_init_100 rfl (lv_at hl 0 rfl) ?_
  refine lv_bipush (v := 16) hx hb dX6_init_101 (by decide) ?_
  refine dk_newa (h := z + 353) (N := 16) hx hb (hts (.arrayClass .int) (List.mem_of_getElem? (i := 4) rfl)) hK hS hz (by decide) rfl (by decide) (Nat.le_of_ble_eq_true rfl) (Nat.le_of_ble_eq_true rfl) dX6_init_103 (fun H h13 ho hz hS => ?_)
  have h0 := dk_kLt h0 ho (by decide)
  have h1 := dk_kLt h1 ho (by decide)
  have h2 := dk_kLt h2 ho (by decide)
  have h3 := dk_kLt h3 ho (by decide)
  have h4 := dk_kLt h4 ho (by decide)
  have h5 := dk_kLt h5 ho (by decide)
  have h6 := dk_kLt h6 ho (by decide)
  have h7 := dk_kLt h7 ho (by decide)
  have h8 := dk_kLt h8 ho (by decide)
  have h9 := dk_kLt h9 ho (by decide)
  have h10 := dk_kLt h10 ho (by decide)
  have h11 := dk_kLt h11 ho (by decide)
  have h12 := dk_kLt h12 ho (by decide)
  have hz : H.size = z + 354 := hz
  refine dk_putF0 (a := z + 340) (ci := 6) (C := RX6) (T := TX6) (N := 26) (v := .ref (z + 353)) (ty := .array .int) hx hb hts iX6_init_6 tyX6 tyX6_ok nmX6 hown hK h0 hS (Nat.le_refl _) rfl 24 (by decide) (hts (.fieldLink RX6 47 "DogKingsModel" "trace" "[I") (List.mem_of_getElem? (i := 18) rfl)) rfl hin rfl (by decide +kernel) rfl rfl (Nat.le_of_ble_eq_true rfl) dX6_init_105 (fun H L h0 ho hz1 hS => ?_)
  have h0 : va_at g.1 vwCl (z + 340, .inr (6, [.ref (z + 341), .ref (z + 342), .ref (z + 343), .ref (z + 344), .int 0, .ref (z + 345), .int 0, .int 0, .int 0, .int 0, .int 0, .int 0, .int 0, .ref (z + 346), .ref (z + 347), .ref (z + 348), .ref (z + 349), .int 0, .ref (z + 350), .ref (z + 351), .int 0, .int 0, .int 0, .ref (z + 352), .ref (z + 353), .int 0])) H := h0
  have h1 := dk_kNe h1 ho (by decide)
  have h2 := dk_kNe h2 ho (by decide)
  have h3 := dk_kNe h3 ho (by decide)
  have h4 := dk_kNe h4 ho (by decide)
  have h5 := dk_kNe h5 ho (by decide)
  have h6 := dk_kNe h6 ho (by decide)
  have h7 := dk_kNe h7 ho (by decide)
  have h8 := dk_kNe h8 ho (by decide)
  have h9 := dk_kNe h9 ho (by decide)
  have h10 := dk_kNe h10 ho (by decide)
  have h11 := dk_kNe h11 ho (by decide)
  have h12 := dk_kNe h12 ho (by decide)
  have h13 := dk_kNe h13 ho (by decide)
  have hz : H.size = z + 354 := hz1.trans hz
  refine lv_iconst (v := 0) hx hb dX6_init_108 (by decide) ?_
  refine lv_istore_n (lv' := [(1, .int 0), (0, .ref (z + 340))]) hx hb dX6_init_109 rfl hl (by decide) rfl (fun ls hl => ?_)
  have hreg : dkReg g z 342 354 H := (dkReg.app (b := 343) (dkReg.one (a := 342) h2) (dkReg.app (b := 344) (dkReg.one (a := 343) h3) (dkReg.app (b := 345) (dkReg.one (a := 344) h4) (dkReg.app (b := 346) (dkReg.one (a := 345) h5) (dkReg.app (b := 347) (dkReg.one (a := 346) h6) (dkReg.app (b := 348) (dkReg.one (a := 347) h7) (dkReg.app (b := 349) (dkReg.one (a := 348) h8) (dkReg.app (b := 350) (dkReg.one (a := 349) h9) (dkReg.app (b := 351) (dkReg.one (a := 350) h10) (dkReg.app (b := 352) (dkReg.one (a := 351) h11) (dkReg.app (b := 353) (dkReg.one (a := 352) h12) (dkReg.one (a := 353) h13))))))))))))
  have e9 : (fun j : Nat => if j < 0 then (-1000000 : Int32) else 0) = (fun _ => 0) := by
    funext j
    rw [if_neg (by omega)]
  exact hloop 8 0 rfl 0 H _ ls rfl h0 (by rw [e9]; exact h1) hreg hz hS hl
