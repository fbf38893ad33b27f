set_option maxHeartbeats 4000000 in
set_option maxRecDepth 100000 in
theorem k_row {p : Program} {e : Env} {s : State} {m : MethodId} {below : List Frame} {meth : Method} {c : Code} (l : Launch) {b L z : Nat} {xs : Nat → Int32} {g : dkG} {Q : State → Prop} {H : Heap} {locs : List Loc} {ls : Array Slot} (hz0 : z = s.heap.size) (hx : p.tables.exec = Jvm.exec) (hb : c.code = code) (hml : c.maxLocals = 4) (hown : s.vm.findClass RL = some m.cls) (hts : ∀ w ∈ wsL_law, w.before #[Value.ref b] s = true) (hX : va_X b L xs s s.heap) (hbl : b < s.heap.size) (hL : L = 7) (hK : dkK g s) (hW : dkW g z dkI0 H) (hS : va_S (dkA z) s.heap H locs) (hl : lv_has ls 4 [(3, .int 0), (2, .ref (z + 340)), (1, .ref (z + 0)), (0, .ref b)]) (hend : ∀ (H : Heap) (locs : List Loc) (ls : Array Slot), va_S (dkA z) s.heap H locs → lv_has ls 4 [(3, .int 0), (2, .ref (z + 340)), (1, .ref (z + 0)), (0, .ref b)] → W p l e room_1 s m #[Value.ref b] below meth c H locs (0 + 1 + 339 + 1 + 13) (0 + 10 + 2701 + 26 + 2055) Q (F0 m 1302 ls [])) : W p l e room_1 s m #[Value.ref b] below meth c H locs (0 + 1 + 339 + 1 + 13) (0 + 10 + 2701 + 26 + 2055) Q (F0 m 192 ls []) := by
  have hbA : ¬ dkA z b := by unfold dkA; omega
  have hin : ∀ k : Nat, k < 7 → vp_in (0 + Int32.ofNat k) L := by
    intro k hk
    rw [hL]
    rcases (by omega : k = 0 ∨ k = 1 ∨ k = 2 ∨ k = 3 ∨ k = 4 ∨ k = 5 ∨ k = 6) with rfl | rfl | rfl | rfl | rfl | rfl | rfl <;> exact vp_in_iff.mpr ⟨by decide, by decide⟩
  obtain ⟨a1, ha1⟩ : ∃ y : Int32, xs (Int32.toNatClampNeg (0 + 1)) = y := ⟨_, rfl⟩
  obtain ⟨a2, ha2⟩ : ∃ y : Int32, xs (Int32.toNatClampNeg (0 + 2)) = y := ⟨_, rfl⟩
  obtain ⟨a3, ha3⟩ : ∃ y : Int32, xs (Int32.toNatClampNeg (0 + 3)) = y := ⟨_, rfl⟩
  rcases dkN_cut (-1) (0) rfl (dkN_top a1) with h1 | h1
  ·
    refine lv_aload_n hx hb dL_law_192 rfl (lv_at hl 2 rfl) ?_
    refine lv_aload_n hx hb dL_law_193 rfl (lv_at hl 3 rfl) ?_
    refine lv_iload_n hx hb dL_law_194 rfl (lv_at hl 0 rfl) ?_
    refine lv_iconst (v := 1) hx hb dL_law_195 (by decide) ?_
    refine lv_iadd hx hb dL_law_196 ?_
    refine va_sld hx hb hX hbl hbA hS (hin 1 (by decide)) dL_law_197 ?_
    rw [ha1]
    refine lv_aload_n hx hb dL_law_198 rfl (lv_at hl 3 rfl) ?_
    refine lv_iload_n hx hb dL_law_199 rfl (lv_at hl 0 rfl) ?_
    refine lv_iconst (v := 2) hx hb dL_law_200 (by decide) ?_
    refine lv_iadd hx hb dL_law_201 ?_
    refine va_sld hx hb hX hbl hbA hS (hin 2 (by decide)) dL_law_202 ?_
    rw [ha2]
    refine lv_aload_n hx hb dL_law_203 rfl (lv_at hl 3 rfl) ?_
    refine lv_iload_n hx hb dL_law_204 rfl (lv_at hl 0 rfl) ?_
    refine lv_iconst (v := 3) hx hb dL_law_205 (by decide) ?_
    refine lv_iadd hx hb dL_law_206 ?_
    refine va_sld hx hb hX hbl hbA hS (hin 3 (by decide)) dL_law_207 ?_
    rw [ha3]
    refine dk_Vi (As := [.int a1, .int a2, .int a3]) (rest := []) ⟨hx, hb, hml, hown, hts⟩ (c_X5_row_0 l g z dkI0 a1 a2 a3 (dkN_sub h1 rfl)) (cwV 3 hts gL_law_X5_row rfl rfl rfl (by decide +kernel) ⟨Nat.le_of_ble_eq_true rfl, Nat.le_of_ble_eq_true rfl⟩) (dk_at0 hW) rfl hK hW hS rfl hl.1 rfl (Nat.le_of_ble_eq_true rfl) dL_law_208 ⟨Nat.le_of_ble_eq_true rfl, Nat.le_of_ble_eq_true rfl⟩ (fun v1 I1 H L hp1 hW hS => ?_)
    obtain ⟨dv1, hF1, -⟩ := hp1
    refine lv_aload_n hx hb dL_law_211 rfl (lv_at hl 1 rfl) ?_
    refine lv_aload_n hx hb dL_law_212 rfl (lv_at hl 3 rfl) ?_
    refine lv_iload_n hx hb dL_law_213 rfl (lv_at hl 0 rfl) ?_
    refine lv_iconst (v := 1) hx hb dL_law_214 (by decide) ?_
    refine lv_iadd hx hb dL_law_215 ?_
    refine va_sld hx hb hX hbl hbA hS (hin 1 (by decide)) dL_law_216 ?_
    rw [ha1]
    refine lv_aload_n hx hb dL_law_217 rfl (lv_at hl 3 rfl) ?_
    refine lv_iload_n hx hb dL_law_218 rfl (lv_at hl 0 rfl) ?_
    refine lv_iconst (v := 2) hx hb dL_law_219 (by decide) ?_
    refine lv_iadd hx hb dL_law_220 ?_
    refine va_sld hx hb hX hbl hbA hS (hin 2 (by decide)) dL_law_221 ?_
    rw [ha2]
    refine lv_aload_n hx hb dL_law_222 rfl (lv_at hl 3 rfl) ?_
    refine lv_iload_n hx hb dL_law_223 rfl (lv_at hl 0 rfl) ?_
    refine lv_iconst (v := 3) hx hb dL_law_224 (by decide) ?_
    refine lv_iadd hx hb dL_law_225 ?_
    refine va_sld hx hb hX hbl hbA hS (hin 3 (by decide)) dL_law_226 ?_
    rw [ha3]
    refine dk_Vi (As := [.int a1, .int a2, .int a3]) (rest := [.int v1]) ⟨hx, hb, hml, hown, hts⟩ (c_X6_row_0 l g z I1 a1 a2 a3 (dkN_sub h1 rfl)) (cwV 3 hts gL_law_X6_row rfl rfl rfl (by decide +kernel) ⟨Nat.le_of_ble_eq_true rfl, Nat.le_of_ble_eq_true rfl⟩) (dk_at340 hW) rfl hK hW hS rfl hl.1 rfl (Nat.le_of_ble_eq_true rfl) dL_law_227 ⟨Nat.le_of_ble_eq_true rfl, Nat.le_of_ble_eq_true rfl⟩ (fun v2 I2 H L hp2 hW hS => ?_)
    obtain ⟨dv2, hF2, -⟩ := hp2
    refine lv_icmp_eq (tgt := 1302) hx hb dL_law_230 (by decide) (fun c9 => ?_) (fun c9 => ?_)
    · exact hend _ _ ls hS hl
    · exact absurd (Int32.toInt_inj.mp ((dkN_one dv1).trans (dkN_one dv2).symm)) c9
  ·
    rcases dkN_cut (0) (1) rfl h1 with h2 | h2
    ·
      rcases dkN_cut (-1) (0) rfl (dkN_top a2) with h3 | h3
      ·
        refine lv_aload_n hx hb dL_law_192 rfl (lv_at hl 2 rfl) ?_
        refine lv_aload_n hx hb dL_law_193 rfl (lv_at hl 3 rfl) ?_
        refine lv_iload_n hx hb dL_law_194 rfl (lv_at hl 0 rfl) ?_
        refine lv_iconst (v := 1) hx hb dL_law_195 (by decide) ?_
        refine lv_iadd hx hb dL_law_196 ?_
        refine va_sld hx hb hX hbl hbA hS (hin 1 (by decide)) dL_law_197 ?_
        rw [ha1]
        refine lv_aload_n hx hb dL_law_198 rfl (lv_at hl 3 rfl) ?_
        refine lv_iload_n hx hb dL_law_199 rfl (lv_at hl 0 rfl) ?_
        refine lv_iconst (v := 2) hx hb dL_law_200 (by decide) ?_
        refine lv_iadd hx hb dL_law_201 ?_
        refine va_sld hx hb hX hbl hbA hS (hin 2 (by decide)) dL_law_202 ?_
        rw [ha2]
        refine lv_aload_n hx hb dL_law_203 rfl (lv_at hl 3 rfl) ?_
        refine lv_iload_n hx hb dL_law_204 rfl (lv_at hl 0 rfl) ?_
        refine lv_iconst (v := 3) hx hb dL_law_205 (by decide) ?_
        refine lv_iadd hx hb dL_law_206 ?_
        refine va_sld hx hb hX hbl hbA hS (hin 3 (by decide)) dL_law_207 ?_
        rw [ha3]
        refine dk_Vi (As := [.int a1, .int a2, .int a3]) (rest := []) ⟨hx, hb, hml, hown, hts⟩ (c_X5_row_1 l g z dkI0 a1 a2 a3 (dkN_sub h2 rfl) (dkN_sub h3 rfl)) (cwV 3 hts gL_law_X5_row rfl rfl rfl (by decide +kernel) ⟨Nat.le_of_ble_eq_true rfl, Nat.le_of_ble_eq_true rfl⟩) (dk_at0 hW) rfl hK hW hS rfl hl.1 rfl (Nat.le_of_ble_eq_true rfl) dL_law_208 ⟨Nat.le_of_ble_eq_true rfl, Nat.le_of_ble_eq_true rfl⟩ (fun v1 I1 H L hp1 hW hS => ?_)
        obtain ⟨dv1, hF1, -⟩ := hp1
        refine lv_aload_n hx hb dL_law_211 rfl (lv_at hl 1 rfl) ?_
        refine lv_aload_n hx hb dL_law_212 rfl (lv_at hl 3 rfl) ?_
        refine lv_iload_n hx hb dL_law_213 rfl (lv_at hl 0 rfl) ?_
        refine lv_iconst (v := 1) hx hb dL_law_214 (by decide) ?_
        refine lv_iadd hx hb dL_law_215 ?_
        refine va_sld hx hb hX hbl hbA hS (hin 1 (by decide)) dL_law_216 ?_
        rw [ha1]
        refine lv_aload_n hx hb dL_law_217 rfl (lv_at hl 3 rfl) ?_
        refine lv_iload_n hx hb dL_law_218 rfl (lv_at hl 0 rfl) ?_
        refine lv_iconst (v := 2) hx hb dL_law_219 (by decide) ?_
        refine lv_iadd hx hb dL_law_220 ?_
        refine va_sld hx hb hX hbl hbA hS (hin 2 (by decide)) dL_law_221 ?_
        rw [ha2]
        refine lv_aload_n hx hb dL_law_222 rfl (lv_at hl 3 rfl) ?_
        refine lv_iload_n hx hb dL_law_223 rfl (lv_at hl 0 rfl) ?_
        refine lv_iconst (v := 3) hx hb dL_law_224 (by decide) ?_
        refine lv_iadd hx hb dL_law_225 ?_
        refine va_sld hx hb hX hbl hbA hS (hin 3 (by decide)) dL_law_226 ?_
        rw [ha3]
        refine dk_Vi (As := [.int a1, .int a2, .int a3]) (rest := [.int v1]) ⟨hx, hb, hml, hown, hts⟩ (c_X6_row_1 l g z I1 a1 a2 a3 (dkN_sub h2 rfl) (dkN_sub h3 rfl)) (cwV 3 hts gL_law_X6_row rfl rfl rfl (by decide +kernel) ⟨Nat.le_of_ble_eq_true rfl, Nat.le_of_ble_eq_true rfl⟩) (dk_at340 hW) rfl hK hW hS rfl hl.1 rfl (Nat.le_of_ble_eq_true rfl) dL_law_227 ⟨Nat.le_of_ble_eq_true rfl, Nat.le_of_ble_eq_true rfl⟩ (fun v2 I2 H L hp2 hW hS => ?_)
        obtain ⟨dv2, hF2, -⟩ := hp2
        refine lv_icmp_eq (tgt := 1302) hx hb dL_law_230 (by decide) (fun c9 => ?_) (fun c9 => ?_)
        · exact hend _ _ ls hS hl
        · exact absurd (Int32.toInt_inj.mp ((dkN_one dv1).trans (dkN_one dv2).symm)) c9
      ·
        rcases dkN_cut (2) (3) rfl h3 with h4 | h4
        ·
          rcases dkN_cut (-1) (0) rfl (dkN_top a3) with h5 | h5
          ·
            refine lv_aload_n hx hb dL_law_192 rfl (lv_at hl 2 rfl) ?_
            refine lv_aload_n hx hb dL_law_193 rfl (lv_at hl 3 rfl) ?_
            refine lv_iload_n hx hb dL_law_194 rfl (lv_at hl 0 rfl) ?_
            refine lv_iconst (v := 1) hx hb dL_law_195 (by decide) ?_
            refine lv_iadd hx hb dL_law_196 ?_
            refine va_sld hx hb hX hbl hbA hS (hin 1 (by decide)) dL_law_197 ?_
            rw [ha1]
            refine lv_aload_n hx hb dL_law_198 rfl (lv_at hl 3 rfl) ?_
            refine lv_iload_n hx hb dL_law_199 rfl (lv_at hl 0 rfl) ?_
            refine lv_iconst (v := 2) hx hb dL_law_200 (by decide) ?_
            refine lv_iadd hx hb dL_law_201 ?_
            refine va_sld hx hb hX hbl hbA hS (hin 2 (by decide)) dL_law_202 ?_
            rw [ha2]
            refine lv_aload_n hx hb dL_law_203 rfl (lv_at hl 3 rfl) ?_
            refine lv_iload_n hx hb dL_law_204 rfl (lv_at hl 0 rfl) ?_
            refine lv_iconst (v := 3) hx hb dL_law_205 (by decide) ?_
            refine lv_iadd hx hb dL_law_206 ?_
            refine va_sld hx hb hX hbl hbA hS (hin 3 (by decide)) dL_law_207 ?_
            rw [ha3]
            refine dk_Vi (As := [.int a1, .int a2, .int a3]) (rest := []) ⟨hx, hb, hml, hown, hts⟩ (c_X5_row_3 l g z dkI0 a1 a2 a3 (dkN_sub h2 rfl) (dkN_sub h4 rfl) (dkN_sub h5 rfl)) (cwV 3 hts gL_law_X5_row rfl rfl rfl (by decide +kernel) ⟨Nat.le_of_ble_eq_true rfl, Nat.le_of_ble_eq_true rfl⟩) (dk_at0 hW) rfl hK hW hS rfl hl.1 rfl (Nat.le_of_ble_eq_true rfl) dL_law_208 ⟨Nat.le_of_ble_eq_true rfl, Nat.le_of_ble_eq_true rfl⟩ (fun v1 I1 H L hp1 hW hS => ?_)
            obtain ⟨dv1, hF1, _, -⟩ := hp1
            refine lv_aload_n hx hb dL_law_211 rfl (lv_at hl 1 rfl) ?_
            refine lv_aload_n hx hb dL_law_212 rfl (lv_at hl 3 rfl) ?_
            refine lv_iload_n hx hb dL_law_213 rfl (lv_at hl 0 rfl) ?_
            refine lv_iconst (v := 1) hx hb dL_law_214 (by decide) ?_
            refine lv_iadd hx hb dL_law_215 ?_
            refine va_sld hx hb hX hbl hbA hS (hin 1 (by decide)) dL_law_216 ?_
            rw [ha1]
            refine lv_aload_n hx hb dL_law_217 rfl (lv_at hl 3 rfl) ?_
            refine lv_iload_n hx hb dL_law_218 rfl (lv_at hl 0 rfl) ?_
            refine lv_iconst (v := 2) hx hb dL_law_219 (by decide) ?_
            refine lv_iadd hx hb dL_law_220 ?_
            refine va_sld hx hb hX hbl hbA hS (hin 2 (by decide)) dL_law_221 ?_
            rw [ha2]
            refine lv_aload_n hx hb dL_law_222 rfl (lv_at hl 3 rfl) ?_
            refine lv_iload_n hx hb dL_law_223 rfl (lv_at hl 0 rfl) ?_
            refine lv_iconst (v := 3) hx hb dL_law_224 (by decide) ?_
            refine lv_iadd hx hb dL_law_225 ?_
            refine va_sld hx hb hX hbl hbA hS (hin 3 (by decide)) dL_law_226 ?_
            rw [ha3]
            refine dk_Vi (As := [.int a1, .int a2, .int a3]) (rest := [.int v1]) ⟨hx, hb, hml, hown, hts⟩ (c_X6_row_3 l g z I1 a1 a2 a3 (dkN_sub h2 rfl) (dkN_sub h4 rfl) (dkN_sub h5 rfl)) (cwV 3 hts gL_law_X6_row rfl rfl rfl (by decide +kernel) ⟨Nat.le_of_ble_eq_true rfl, Nat.le_of_ble_eq_true rfl⟩) (dk_at340 hW) rfl hK hW hS rfl hl.1 rfl (Nat.le_of_ble_eq_true rfl) dL_law_227 ⟨Nat.le_of_ble_eq_true rfl, Nat.le_of_ble_eq_true rfl⟩ (fun v2 I2 H L hp2 hW hS => ?_)
            obtain ⟨dv2, hF2, _, -⟩ := hp2
            refine lv_icmp_eq (tgt := 1302) hx hb dL_law_230 (by decide) (fun c9 => ?_) (fun c9 => ?_)
            · exact hend _ _ ls hS hl
            · exact absurd (Int32.toInt_inj.mp ((dkN_one dv1).trans (dkN_one dv2).symm)) c9
          ·
            rcases dkN_cut (40) (41) rfl h5 with h6 | h6
            ·
              refine lv_aload_n hx hb dL_law_192 rfl (lv_at hl 2 rfl) ?_
              refine lv_aload_n hx hb dL_law_193 rfl (lv_at hl 3 rfl) ?_
              refine lv_iload_n hx hb dL_law_194 rfl (lv_at hl 0 rfl) ?_
              refine lv_iconst (v := 1) hx hb dL_law_195 (by decide) ?_
              refine lv_iadd hx hb dL_law_196 ?_
              refine va_sld hx hb hX hbl hbA hS (hin 1 (by decide)) dL_law_197 ?_
              rw [ha1]
              refine lv_aload_n hx hb dL_law_198 rfl (lv_at hl 3 rfl) ?_
              refine lv_iload_n hx hb dL_law_199 rfl (lv_at hl 0 rfl) ?_
              refine lv_iconst (v := 2) hx hb dL_law_200 (by decide) ?_
              refine lv_iadd hx hb dL_law_201 ?_
              refine va_sld hx hb hX hbl hbA hS (hin 2 (by decide)) dL_law_202 ?_
              rw [ha2]
              refine lv_aload_n hx hb dL_law_203 rfl (lv_at hl 3 rfl) ?_
              refine lv_iload_n hx hb dL_law_204 rfl (lv_at hl 0 rfl) ?_
              refine lv_iconst (v := 3) hx hb dL_law_205 (by decide) ?_
              refine lv_iadd hx hb dL_law_206 ?_
              refine va_sld hx hb hX hbl hbA hS (hin 3 (by decide)) dL_law_207 ?_
              rw [ha3]
              refine dk_Vi (As := [.int a1, .int a2, .int a3]) (rest := []) ⟨hx, hb, hml, hown, hts⟩ (c_X5_row_4 l g z dkI0 a1 a2 a3 (dkN_sub h2 rfl) (dkN_sub h4 rfl) (dkN_sub h6 rfl) (dkN_lit (0) rfl)) (cwV 3 hts gL_law_X5_row rfl rfl rfl (by decide +kernel) ⟨Nat.le_of_ble_eq_true rfl, Nat.le_of_ble_eq_true rfl⟩) (dk_at0 hW) rfl hK hW hS rfl hl.1 rfl (Nat.le_of_ble_eq_true rfl) dL_law_208 ⟨Nat.le_of_ble_eq_true rfl, Nat.le_of_ble_eq_true rfl⟩ (fun v1 I1 H L hp1 hW hS => ?_)
              obtain ⟨dv1, hF1, _, ev1, -⟩ := hp1
              refine lv_aload_n hx hb dL_law_211 rfl (lv_at hl 1 rfl) ?_
              refine lv_aload_n hx hb dL_law_212 rfl (lv_at hl 3 rfl) ?_
              refine lv_iload_n hx hb dL_law_213 rfl (lv_at hl 0 rfl) ?_
              refine lv_iconst (v := 1) hx hb dL_law_214 (by decide) ?_
              refine lv_iadd hx hb dL_law_215 ?_
              refine va_sld hx hb hX hbl hbA hS (hin 1 (by decide)) dL_law_216 ?_
              rw [ha1]
              refine lv_aload_n hx hb dL_law_217 rfl (lv_at hl 3 rfl) ?_
              refine lv_iload_n hx hb dL_law_218 rfl (lv_at hl 0 rfl) ?_
              refine lv_iconst (v := 2) hx hb dL_law_219 (by decide) ?_
              refine lv_iadd hx hb dL_law_220 ?_
              refine va_sld hx hb hX hbl hbA hS (hin 2 (by decide)) dL_law_221 ?_
              rw [ha2]
              refine lv_aload_n hx hb dL_law_222 rfl (lv_at hl 3 rfl) ?_
              refine lv_iload_n hx hb dL_law_223 rfl (lv_at hl 0 rfl) ?_
              refine lv_iconst (v := 3) hx hb dL_law_224 (by decide) ?_
              refine lv_iadd hx hb dL_law_225 ?_
              refine va_sld hx hb hX hbl hbA hS (hin 3 (by decide)) dL_law_226 ?_
              rw [ha3]
              refine dk_Vi (As := [.int a1, .int a2, .int a3]) (rest := [.int v1]) ⟨hx, hb, hml, hown, hts⟩ (c_X6_row_4 l g z I1 a1 a2 a3 (dkN_sub h2 rfl) (dkN_sub h4 rfl) (dkN_sub h6 rfl) (by rw [hF1 340 4 rfl]; exact dkN_lit (0) rfl)) (cwV 3 hts gL_law_X6_row rfl rfl rfl (by decide +kernel) ⟨Nat.le_of_ble_eq_true rfl, Nat.le_of_ble_eq_true rfl⟩) (dk_at340 hW) rfl hK hW hS rfl hl.1 rfl (Nat.le_of_ble_eq_true rfl) dL_law_227 ⟨Nat.le_of_ble_eq_true rfl, Nat.le_of_ble_eq_true rfl⟩ (fun v2 I2 H L hp2 hW hS => ?_)
              obtain ⟨dv2, hF2, _, ev2, -⟩ := hp2
              refine lv_icmp_eq (tgt := 1302) hx hb dL_law_230 (by decide) (fun c9 => ?_) (fun c9 => ?_)
              · exact hend _ _ ls hS hl
              · exact absurd (ev1.trans ev2.symm) c9
            ·
              refine lv_aload_n hx hb dL_law_192 rfl (lv_at hl 2 rfl) ?_
              refine lv_aload_n hx hb dL_law_193 rfl (lv_at hl 3 rfl) ?_
              refine lv_iload_n hx hb dL_law_194 rfl (lv_at hl 0 rfl) ?_
              refine lv_iconst (v := 1) hx hb dL_law_195 (by decide) ?_
              refine lv_iadd hx hb dL_law_196 ?_
              refine va_sld hx hb hX hbl hbA hS (hin 1 (by decide)) dL_law_197 ?_
              rw [ha1]
              refine lv_aload_n hx hb dL_law_198 rfl (lv_at hl 3 rfl) ?_
              refine lv_iload_n hx hb dL_law_199 rfl (lv_at hl 0 rfl) ?_
              refine lv_iconst (v := 2) hx hb dL_law_200 (by decide) ?_
              refine lv_iadd hx hb dL_law_201 ?_
              refine va_sld hx hb hX hbl hbA hS (hin 2 (by decide)) dL_law_202 ?_
              rw [ha2]
              refine lv_aload_n hx hb dL_law_203 rfl (lv_at hl 3 rfl) ?_
              refine lv_iload_n hx hb dL_law_204 rfl (lv_at hl 0 rfl) ?_
              refine lv_iconst (v := 3) hx hb dL_law_205 (by decide) ?_
              refine lv_iadd hx hb dL_law_206 ?_
              refine va_sld hx hb hX hbl hbA hS (hin 3 (by decide)) dL_law_207 ?_
              rw [ha3]
              refine dk_Vi (As := [.int a1, .int a2, .int a3]) (rest := []) ⟨hx, hb, hml, hown, hts⟩ (c_X5_row_2 l g z dkI0 a1 a2 a3 (dkN_sub h2 rfl) (dkN_sub h4 rfl) (dkN_sub h6 rfl)) (cwV 3 hts gL_law_X5_row rfl rfl rfl (by decide +kernel) ⟨Nat.le_of_ble_eq_true rfl, Nat.le_of_ble_eq_true rfl⟩) (dk_at0 hW) rfl hK hW hS rfl hl.1 rfl (Nat.le_of_ble_eq_true rfl) dL_law_208 ⟨Nat.le_of_ble_eq_true rfl, Nat.le_of_ble_eq_true rfl⟩ (fun v1 I1 H L hp1 hW hS => ?_)
              obtain ⟨dv1, hF1, -⟩ := hp1
              refine lv_aload_n hx hb dL_law_211 rfl (lv_at hl 1 rfl) ?_
              refine lv_aload_n hx hb dL_law_212 rfl (lv_at hl 3 rfl) ?_
              refine lv_iload_n hx hb dL_law_213 rfl (lv_at hl 0 rfl) ?_
              refine lv_iconst (v := 1) hx hb dL_law_214 (by decide) ?_
              refine lv_iadd hx hb dL_law_215 ?_
              refine va_sld hx hb hX hbl hbA hS (hin 1 (by decide)) dL_law_216 ?_
              rw [ha1]
              refine lv_aload_n hx hb dL_law_217 rfl (lv_at hl 3 rfl) ?_
              refine lv_iload_n hx hb dL_law_218 rfl (lv_at hl 0 rfl) ?_
              refine lv_iconst (v := 2) hx hb dL_law_219 (by decide) ?_
              refine lv_iadd hx hb dL_law_220 ?_
              refine va_sld hx hb hX hbl hbA hS (hin 2 (by decide)) dL_law_221 ?_
              rw [ha2]
              refine lv_aload_n hx hb dL_law_222 rfl (lv_at hl 3 rfl) ?_
              refine lv_iload_n hx hb dL_law_223 rfl (lv_at hl 0 rfl) ?_
              refine lv_iconst (v := 3) hx hb dL_law_224 (by decide) ?_
              refine lv_iadd hx hb dL_law_225 ?_
              refine va_sld hx hb hX hbl hbA hS (hin 3 (by decide)) dL_law_226 ?_
              rw [ha3]
              refine dk_Vi (As := [.int a1, .int a2, .int a3]) (rest := [.int v1]) ⟨hx, hb, hml, hown, hts⟩ (c_X6_row_2 l g z I1 a1 a2 a3 (dkN_sub h2 rfl) (dkN_sub h4 rfl) (dkN_sub h6 rfl)) (cwV 3 hts gL_law_X6_row rfl rfl rfl (by decide +kernel) ⟨Nat.le_of_ble_eq_true rfl, Nat.le_of_ble_eq_true rfl⟩) (dk_at340 hW) rfl hK hW hS rfl hl.1 rfl (Nat.le_of_ble_eq_true rfl) dL_law_227 ⟨Nat.le_of_ble_eq_true rfl, Nat.le_of_ble_eq_true rfl⟩ (fun v2 I2 H L hp2 hW hS => ?_)
              obtain ⟨dv2, hF2, -⟩ := hp2
              refine lv_icmp_eq (tgt := 1302) hx hb dL_law_230 (by decide) (fun c9 => ?_) (fun c9 => ?_)
              · exact hend _ _ ls hS hl
              · exact absurd (Int32.toInt_inj.mp ((dkN_one dv1).trans (dkN_one dv2).symm)) c9
        ·
          refine lv_aload_n hx hb dL_law_192 rfl (lv_at hl 2 rfl) ?_
          refine lv_aload_n hx hb dL_law_193 rfl (lv_at hl 3 rfl) ?_
          refine lv_iload_n hx hb dL_law_194 rfl (lv_at hl 0 rfl) ?_
          refine lv_iconst (v := 1) hx hb dL_law_195 (by decide) ?_
          refine lv_iadd hx hb dL_law_196 ?_
          refine va_sld hx hb hX hbl hbA hS (hin 1 (by decide)) dL_law_197 ?_
          rw [ha1]
          refine lv_aload_n hx hb dL_law_198 rfl (lv_at hl 3 rfl) ?_
          refine lv_iload_n hx hb dL_law_199 rfl (lv_at hl 0 rfl) ?_
          refine lv_iconst (v := 2) hx hb dL_law_200 (by decide) ?_
          refine lv_iadd hx hb dL_law_201 ?_
          refine va_sld hx hb hX hbl hbA hS (hin 2 (by decide)) dL_law_202 ?_
          rw [ha2]
          refine lv_aload_n hx hb dL_law_203 rfl (lv_at hl 3 rfl) ?_
          refine lv_iload_n hx hb dL_law_204 rfl (lv_at hl 0 rfl) ?_
          refine lv_iconst (v := 3) hx hb dL_law_205 (by decide) ?_
          refine lv_iadd hx hb dL_law_206 ?_
          refine va_sld hx hb hX hbl hbA hS (hin 3 (by decide)) dL_law_207 ?_
          rw [ha3]
          refine dk_Vi (As := [.int a1, .int a2, .int a3]) (rest := []) ⟨hx, hb, hml, hown, hts⟩ (c_X5_row_1 l g z dkI0 a1 a2 a3 (dkN_sub h2 rfl) (dkN_sub h4 rfl)) (cwV 3 hts gL_law_X5_row rfl rfl rfl (by decide +kernel) ⟨Nat.le_of_ble_eq_true rfl, Nat.le_of_ble_eq_true rfl⟩) (dk_at0 hW) rfl hK hW hS rfl hl.1 rfl (Nat.le_of_ble_eq_true rfl) dL_law_208 ⟨Nat.le_of_ble_eq_true rfl, Nat.le_of_ble_eq_true rfl⟩ (fun v1 I1 H L hp1 hW hS => ?_)
          obtain ⟨dv1, hF1, -⟩ := hp1
          refine lv_aload_n hx hb dL_law_211 rfl (lv_at hl 1 rfl) ?_
          refine lv_aload_n hx hb dL_law_212 rfl (lv_at hl 3 rfl) ?_
          refine lv_iload_n hx hb dL_law_213 rfl (lv_at hl 0 rfl) ?_
          refine lv_iconst (v := 1) hx hb dL_law_214 (by decide) ?_
          refine lv_iadd hx hb dL_law_215 ?_
          refine va_sld hx hb hX hbl hbA hS (hin 1 (by decide)) dL_law_216 ?_
          rw [ha1]
          refine lv_aload_n hx hb dL_law_217 rfl (lv_at hl 3 rfl) ?_
          refine lv_iload_n hx hb dL_law_218 rfl (lv_at hl 0 rfl) ?_
          refine lv_iconst (v := 2) hx hb dL_law_219 (by decide) ?_
          refine lv_iadd hx hb dL_law_220 ?_
          refine va_sld hx hb hX hbl hbA hS (hin 2 (by decide)) dL_law_221 ?_
          rw [ha2]
          refine lv_aload_n hx hb dL_law_222 rfl (lv_at hl 3 rfl) ?_
          refine lv_iload_n hx hb dL_law_223 rfl (lv_at hl 0 rfl) ?_
          refine lv_iconst (v := 3) hx hb dL_law_224 (by decide) ?_
          refine lv_iadd hx hb dL_law_225 ?_
          refine va_sld hx hb hX hbl hbA hS (hin 3 (by decide)) dL_law_226 ?_
          rw [ha3]
          refine dk_Vi (As := [.int a1, .int a2, .int a3]) (rest := [.int v1]) ⟨hx, hb, hml, hown, hts⟩ (c_X6_row_1 l g z I1 a1 a2 a3 (dkN_sub h2 rfl) (dkN_sub h4 rfl)) (cwV 3 hts gL_law_X6_row rfl rfl rfl (by decide +kernel) ⟨Nat.le_of_ble_eq_true rfl, Nat.le_of_ble_eq_true rfl⟩) (dk_at340 hW) rfl hK hW hS rfl hl.1 rfl (Nat.le_of_ble_eq_true rfl) dL_law_227 ⟨Nat.le_of_ble_eq_true rfl, Nat.le_of_ble_eq_true rfl⟩ (fun v2 I2 H L hp2 hW hS => ?_)
          obtain ⟨dv2, hF2, -⟩ := hp2
          refine lv_icmp_eq (tgt := 1302) hx hb dL_law_230 (by decide) (fun c9 => ?_) (fun c9 => ?_)
          · exact hend _ _ ls hS hl
          · exact absurd (Int32.toInt_inj.mp ((dkN_one dv1).trans (dkN_one dv2).symm)) c9
    ·
      rcases dkN_cut (1) (2) rfl h2 with h7 | h7
      ·
        rcases dkN_cut (-1) (0) rfl (dkN_top a2) with h8 | h8
        ·
          refine lv_aload_n hx hb dL_law_192 rfl (lv_at hl 2 rfl) ?_
          refine lv_aload_n hx hb dL_law_193 rfl (lv_at hl 3 rfl) ?_
          refine lv_iload_n hx hb dL_law_194 rfl (lv_at hl 0 rfl) ?_
          refine lv_iconst (v := 1) hx hb dL_law_195 (by decide) ?_
          refine lv_iadd hx hb dL_law_196 ?_
          refine va_sld hx hb hX hbl hbA hS (hin 1 (by decide)) dL_law_197 ?_
          rw [ha1]
          refine lv_aload_n hx hb dL_law_198 rfl (lv_at hl 3 rfl) ?_
          refine lv_iload_n hx hb dL_law_199 rfl (lv_at hl 0 rfl) ?_
          refine lv_iconst (v := 2) hx hb dL_law_200 (by decide) ?_
          refine lv_iadd hx hb dL_law_201 ?_
          refine va_sld hx hb hX hbl hbA hS (hin 2 (by decide)) dL_law_202 ?_
          rw [ha2]
          refine lv_aload_n hx hb dL_law_203 rfl (lv_at hl 3 rfl) ?_
          refine lv_iload_n hx hb dL_law_204 rfl (lv_at hl 0 rfl) ?_
          refine lv_iconst (v := 3) hx hb dL_law_205 (by decide) ?_
          refine lv_iadd hx hb dL_law_206 ?_
          refine va_sld hx hb hX hbl hbA hS (hin 3 (by decide)) dL_law_207 ?_
          rw [ha3]
          refine dk_Vi (As := [.int a1, .int a2, .int a3]) (rest := []) ⟨hx, hb, hml, hown, hts⟩ (c_X5_row_1 l g z dkI0 a1 a2 a3 (dkN_sub h7 rfl) (dkN_sub h8 rfl)) (cwV 3 hts gL_law_X5_row rfl rfl rfl (by decide +kernel) ⟨Nat.le_of_ble_eq_true rfl, Nat.le_of_ble_eq_true rfl⟩) (dk_at0 hW) rfl hK hW hS rfl hl.1 rfl (Nat.le_of_ble_eq_true rfl) dL_law_208 ⟨Nat.le_of_ble_eq_true rfl, Nat.le_of_ble_eq_true rfl⟩ (fun v1 I1 H L hp1 hW hS => ?_)
          obtain ⟨dv1, hF1, -⟩ := hp1
          refine lv_aload_n hx hb dL_law_211 rfl (lv_at hl 1 rfl) ?_
          refine lv_aload_n hx hb dL_law_212 rfl (lv_at hl 3 rfl) ?_
          refine lv_iload_n hx hb dL_law_213 rfl (lv_at hl 0 rfl) ?_
          refine lv_iconst (v := 1) hx hb dL_law_214 (by decide) ?_
          refine lv_iadd hx hb dL_law_215 ?_
          refine va_sld hx hb hX hbl hbA hS (hin 1 (by decide)) dL_law_216 ?_
          rw [ha1]
          refine lv_aload_n hx hb dL_law_217 rfl (lv_at hl 3 rfl) ?_
          refine lv_iload_n hx hb dL_law_218 rfl (lv_at hl 0 rfl) ?_
          refine lv_iconst (v := 2) hx hb dL_law_219 (by decide) ?_
          refine lv_iadd hx hb dL_law_220 ?_
          refine va_sld hx hb hX hbl hbA hS (hin 2 (by decide)) dL_law_221 ?_
          rw [ha2]
          refine lv_aload_n hx hb dL_law_222 rfl (lv_at hl 3 rfl) ?_
          refine lv_iload_n hx hb dL_law_223 rfl (lv_at hl 0 rfl) ?_
          refine lv_iconst (v := 3) hx hb dL_law_224 (by decide) ?_
          refine lv_iadd hx hb dL_law_225 ?_
          refine va_sld hx hb hX hbl hbA hS (hin 3 (by decide)) dL_law_226 ?_
          rw [ha3]
          refine dk_Vi (As := [.int a1, .int a2, .int a3]) (rest := [.int v1]) ⟨hx, hb, hml, hown, hts⟩ (c_X6_row_1 l g z I1 a1 a2 a3 (dkN_sub h7 rfl) (dkN_sub h8 rfl)) (cwV 3 hts gL_law_X6_row rfl rfl rfl (by decide +kernel) ⟨Nat.le_of_ble_eq_true rfl, Nat.le_of_ble_eq_true rfl⟩) (dk_at340 hW) rfl hK hW hS rfl hl.1 rfl (Nat.le_of_ble_eq_true rfl) dL_law_227 ⟨Nat.le_of_ble_eq_true rfl, Nat.le_of_ble_eq_true rfl⟩ (fun v2 I2 H L hp2 hW hS => ?_)
          obtain ⟨dv2, hF2, -⟩ := hp2
          refine lv_icmp_eq (tgt := 1302) hx hb dL_law_230 (by decide) (fun c9 => ?_) (fun c9 => ?_)
          · exact hend _ _ ls hS hl
          · exact absurd (Int32.toInt_inj.mp ((dkN_one dv1).trans (dkN_one dv2).symm)) c9
        ·
          rcases dkN_cut (2) (3) rfl h8 with h9 | h9
          ·
            rcases dkN_cut (-1) (0) rfl (dkN_top a3) with h10 | h10
            ·
              refine lv_aload_n hx hb dL_law_192 rfl (lv_at hl 2 rfl) ?_
              refine lv_aload_n hx hb dL_law_193 rfl (lv_at hl 3 rfl) ?_
              refine lv_iload_n hx hb dL_law_194 rfl (lv_at hl 0 rfl) ?_
              refine lv_iconst (v := 1) hx hb dL_law_195 (by decide) ?_
              refine lv_iadd hx hb dL_law_196 ?_
              refine va_sld hx hb hX hbl hbA hS (hin 1 (by decide)) dL_law_197 ?_
              rw [ha1]
              refine lv_aload_n hx hb dL_law_198 rfl (lv_at hl 3 rfl) ?_
              refine lv_iload_n hx hb dL_law_199 rfl (lv_at hl 0 rfl) ?_
              refine lv_iconst (v := 2) hx hb dL_law_200 (by decide) ?_
              refine lv_iadd hx hb dL_law_201 ?_
              refine va_sld hx hb hX hbl hbA hS (hin 2 (by decide)) dL_law_202 ?_
              rw [ha2]
              refine lv_aload_n hx hb dL_law_203 rfl (lv_at hl 3 rfl) ?_
              refine lv_iload_n hx hb dL_law_204 rfl (lv_at hl 0 rfl) ?_
              refine lv_iconst (v := 3) hx hb dL_law_205 (by decide) ?_
              refine lv_iadd hx hb dL_law_206 ?_
              refine va_sld hx hb hX hbl hbA hS (hin 3 (by decide)) dL_law_207 ?_
              rw [ha3]
              refine dk_Vi (As := [.int a1, .int a2, .int a3]) (rest := []) ⟨hx, hb, hml, hown, hts⟩ (c_X5_row_3 l g z dkI0 a1 a2 a3 (dkN_sub h7 rfl) (dkN_sub h9 rfl) (dkN_sub h10 rfl)) (cwV 3 hts gL_law_X5_row rfl rfl rfl (by decide +kernel) ⟨Nat.le_of_ble_eq_true rfl, Nat.le_of_ble_eq_true rfl⟩) (dk_at0 hW) rfl hK hW hS rfl hl.1 rfl (Nat.le_of_ble_eq_true rfl) dL_law_208 ⟨Nat.le_of_ble_eq_true rfl, Nat.le_of_ble_eq_true rfl⟩ (fun v1 I1 H L hp1 hW hS => ?_)
              obtain ⟨dv1, hF1, _, -⟩ := hp1
              refine lv_aload_n hx hb dL_law_211 rfl (lv_at hl 1 rfl) ?_
              refine lv_aload_n hx hb dL_law_212 rfl (lv_at hl 3 rfl) ?_
              refine lv_iload_n hx hb dL_law_213 rfl (lv_at hl 0 rfl) ?_
              refine lv_iconst (v := 1) hx hb dL_law_214 (by decide) ?_
              refine lv_iadd hx hb dL_law_215 ?_
              refine va_sld hx hb hX hbl hbA hS (hin 1 (by decide)) dL_law_216 ?_
              rw [ha1]
              refine lv_aload_n hx hb dL_law_217 rfl (lv_at hl 3 rfl) ?_
              refine lv_iload_n hx hb dL_law_218 rfl (lv_at hl 0 rfl) ?_
              refine lv_iconst (v := 2) hx hb dL_law_219 (by decide) ?_
              refine lv_iadd hx hb dL_law_220 ?_
              refine va_sld hx hb hX hbl hbA hS (hin 2 (by decide)) dL_law_221 ?_
              rw [ha2]
              refine lv_aload_n hx hb dL_law_222 rfl (lv_at hl 3 rfl) ?_
              refine lv_iload_n hx hb dL_law_223 rfl (lv_at hl 0 rfl) ?_
              refine lv_iconst (v := 3) hx hb dL_law_224 (by decide) ?_
              refine lv_iadd hx hb dL_law_225 ?_
              refine va_sld hx hb hX hbl hbA hS (hin 3 (by decide)) dL_law_226 ?_
              rw [ha3]
              refine dk_Vi (As := [.int a1, .int a2, .int a3]) (rest := [.int v1]) ⟨hx, hb, hml, hown, hts⟩ (c_X6_row_3 l g z I1 a1 a2 a3 (dkN_sub h7 rfl) (dkN_sub h9 rfl) (dkN_sub h10 rfl)) (cwV 3 hts gL_law_X6_row rfl rfl rfl (by decide +kernel) ⟨Nat.le_of_ble_eq_true rfl, Nat.le_of_ble_eq_true rfl⟩) (dk_at340 hW) rfl hK hW hS rfl hl.1 rfl (Nat.le_of_ble_eq_true rfl) dL_law_227 ⟨Nat.le_of_ble_eq_true rfl, Nat.le_of_ble_eq_true rfl⟩ (fun v2 I2 H L hp2 hW hS => ?_)
              obtain ⟨dv2, hF2, _, -⟩ := hp2
              refine lv_icmp_eq (tgt := 1302) hx hb dL_law_230 (by decide) (fun c9 => ?_) (fun c9 => ?_)
              · exact hend _ _ ls hS hl
              · exact absurd (Int32.toInt_inj.mp ((dkN_one dv1).trans (dkN_one dv2).symm)) c9
            ·
              rcases dkN_cut (40) (41) rfl h10 with h11 | h11
              ·
                refine lv_aload_n hx hb dL_law_192 rfl (lv_at hl 2 rfl) ?_
                refine lv_aload_n hx hb dL_law_193 rfl (lv_at hl 3 rfl) ?_
                refine lv_iload_n hx hb dL_law_194 rfl (lv_at hl 0 rfl) ?_
                refine lv_iconst (v := 1) hx hb dL_law_195 (by decide) ?_
                refine lv_iadd hx hb dL_law_196 ?_
                refine va_sld hx hb hX hbl hbA hS (hin 1 (by decide)) dL_law_197 ?_
                rw [ha1]
                refine lv_aload_n hx hb dL_law_198 rfl (lv_at hl 3 rfl) ?_
                refine lv_iload_n hx hb dL_law_199 rfl (lv_at hl 0 rfl) ?_
                refine lv_iconst (v := 2) hx hb dL_law_200 (by decide) ?_
                refine lv_iadd hx hb dL_law_201 ?_
                refine va_sld hx hb hX hbl hbA hS (hin 2 (by decide)) dL_law_202 ?_
                rw [ha2]
                refine lv_aload_n hx hb dL_law_203 rfl (lv_at hl 3 rfl) ?_
                refine lv_iload_n hx hb dL_law_204 rfl (lv_at hl 0 rfl) ?_
                refine lv_iconst (v := 3) hx hb dL_law_205 (by decide) ?_
                refine lv_iadd hx hb dL_law_206 ?_
                refine va_sld hx hb hX hbl hbA hS (hin 3 (by decide)) dL_law_207 ?_
                rw [ha3]
                refine dk_Vi (As := [.int a1, .int a2, .int a3]) (rest := []) ⟨hx, hb, hml, hown, hts⟩ (c_X5_row_5 l g z dkI0 a1 a2 a3 (dkN_sub h7 rfl) (dkN_sub h9 rfl) (dkN_sub h11 rfl) (dkN_lit (0) rfl)) (cwV 3 hts gL_law_X5_row rfl rfl rfl (by decide +kernel) ⟨Nat.le_of_ble_eq_true rfl, Nat.le_of_ble_eq_true rfl⟩) (dk_at0 hW) rfl hK hW hS rfl hl.1 rfl (Nat.le_of_ble_eq_true rfl) dL_law_208 ⟨Nat.le_of_ble_eq_true rfl, Nat.le_of_ble_eq_true rfl⟩ (fun v1 I1 H L hp1 hW hS => ?_)
                obtain ⟨dv1, hF1, _, ev1, -⟩ := hp1
                refine lv_aload_n hx hb dL_law_211 rfl (lv_at hl 1 rfl) ?_
                refine lv_aload_n hx hb dL_law_212 rfl (lv_at hl 3 rfl) ?_
                refine lv_iload_n hx hb dL_law_213 rfl (lv_at hl 0 rfl) ?_
                refine lv_iconst (v := 1) hx hb dL_law_214 (by decide) ?_
                refine lv_iadd hx hb dL_law_215 ?_
                refine va_sld hx hb hX hbl hbA hS (hin 1 (by decide)) dL_law_216 ?_
                rw [ha1]
                refine lv_aload_n hx hb dL_law_217 rfl (lv_at hl 3 rfl) ?_
                refine lv_iload_n hx hb dL_law_218 rfl (lv_at hl 0 rfl) ?_
                refine lv_iconst (v := 2) hx hb dL_law_219 (by decide) ?_
                refine lv_iadd hx hb dL_law_220 ?_
                refine va_sld hx hb hX hbl hbA hS (hin 2 (by decide)) dL_law_221 ?_
                rw [ha2]
                refine lv_aload_n hx hb dL_law_222 rfl (lv_at hl 3 rfl) ?_
                refine lv_iload_n hx hb dL_law_223 rfl (lv_at hl 0 rfl) ?_
                refine lv_iconst (v := 3) hx hb dL_law_224 (by decide) ?_
                refine lv_iadd hx hb dL_law_225 ?_
                refine va_sld hx hb hX hbl hbA hS (hin 3 (by decide)) dL_law_226 ?_
                rw [ha3]
                refine dk_Vi (As := [.int a1, .int a2, .int a3]) (rest := [.int v1]) ⟨hx, hb, hml, hown, hts⟩ (c_X6_row_5 l g z I1 a1 a2 a3 (dkN_sub h7 rfl) (dkN_sub h9 rfl) (dkN_sub h11 rfl) (by rw [hF1 340 4 rfl]; exact dkN_lit (0) rfl)) (cwV 3 hts gL_law_X6_row rfl rfl rfl (by decide +kernel) ⟨Nat.le_of_ble_eq_true rfl, Nat.le_of_ble_eq_true rfl⟩) (dk_at340 hW) rfl hK hW hS rfl hl.1 rfl (Nat.le_of_ble_eq_true rfl) dL_law_227 ⟨Nat.le_of_ble_eq_true rfl, Nat.le_of_ble_eq_true rfl⟩ (fun v2 I2 H L hp2 hW hS => ?_)
                obtain ⟨dv2, hF2, _, ev2, -⟩ := hp2
                refine lv_icmp_eq (tgt := 1302) hx hb dL_law_230 (by decide) (fun c9 => ?_) (fun c9 => ?_)
                · exact hend _ _ ls hS hl
                · exact absurd (ev1.trans ev2.symm) c9
              ·
                refine lv_aload_n hx hb dL_law_192 rfl (lv_at hl 2 rfl) ?_
                refine lv_aload_n hx hb dL_law_193 rfl (lv_at hl 3 rfl) ?_
                refine lv_iload_n hx hb dL_law_194 rfl (lv_at hl 0 rfl) ?_
                refine lv_iconst (v := 1) hx hb dL_law_195 (by decide) ?_
                refine lv_iadd hx hb dL_law_196 ?_
                refine va_sld hx hb hX hbl hbA hS (hin 1 (by decide)) dL_law_197 ?_
                rw [ha1]
                refine lv_aload_n hx hb dL_law_198 rfl (lv_at hl 3 rfl) ?_
                refine lv_iload_n hx hb dL_law_199 rfl (lv_at hl 0 rfl) ?_
                refine lv_iconst (v := 2) hx hb dL_law_200 (by decide) ?_
                refine lv_iadd hx hb dL_law_201 ?_
                refine va_sld hx hb hX hbl hbA hS (hin 2 (by decide)) dL_law_202 ?_
                rw [ha2]
                refine lv_aload_n hx hb dL_law_203 rfl (lv_at hl 3 rfl) ?_
                refine lv_iload_n hx hb dL_law_204 rfl (lv_at hl 0 rfl) ?_
                refine lv_iconst (v := 3) hx hb dL_law_205 (by decide) ?_
                refine lv_iadd hx hb dL_law_206 ?_
                refine va_sld hx hb hX hbl hbA hS (hin 3 (by decide)) dL_law_207 ?_
                rw [ha3]
                refine dk_Vi (As := [.int a1, .int a2, .int a3]) (rest := []) ⟨hx, hb, hml, hown, hts⟩ (c_X5_row_2 l g z dkI0 a1 a2 a3 (dkN_sub h7 rfl) (dkN_sub h9 rfl) (dkN_sub h11 rfl)) (cwV 3 hts gL_law_X5_row rfl rfl rfl (by decide +kernel) ⟨Nat.le_of_ble_eq_true rfl, Nat.le_of_ble_eq_true rfl⟩) (dk_at0 hW) rfl hK hW hS rfl hl.1 rfl (Nat.le_of_ble_eq_true rfl) dL_law_208 ⟨Nat.le_of_ble_eq_true rfl, Nat.le_of_ble_eq_true rfl⟩ (fun v1 I1 H L hp1 hW hS => ?_)
                obtain ⟨dv1, hF1, -⟩ := hp1
                refine lv_aload_n hx hb dL_law_211 rfl (lv_at hl 1 rfl) ?_
                refine lv_aload_n hx hb dL_law_212 rfl (lv_at hl 3 rfl) ?_
                refine lv_iload_n hx hb dL_law_213 rfl (lv_at hl 0 rfl) ?_
                refine lv_iconst (v := 1) hx hb dL_law_214 (by decide) ?_
                refine lv_iadd hx hb dL_law_215 ?_
                refine va_sld hx hb hX hbl hbA hS (hin 1 (by decide)) dL_law_216 ?_
                rw [ha1]
                refine lv_aload_n hx hb dL_law_217 rfl (lv_at hl 3 rfl) ?_
                refine lv_iload_n hx hb dL_law_218 rfl (lv_at hl 0 rfl) ?_
                refine lv_iconst (v := 2) hx hb dL_law_219 (by decide) ?_
                refine lv_iadd hx hb dL_law_220 ?_
                refine va_sld hx hb hX hbl hbA hS (hin 2 (by decide)) dL_law_221 ?_
                rw [ha2]
                refine lv_aload_n hx hb dL_law_222 rfl (lv_at hl 3 rfl) ?_
                refine lv_iload_n hx hb dL_law_223 rfl (lv_at hl 0 rfl) ?_
                refine lv_iconst (v := 3) hx hb dL_law_224 (by decide) ?_
                refine lv_iadd hx hb dL_law_225 ?_
                refine va_sld hx hb hX hbl hbA hS (hin 3 (by decide)) dL_law_226 ?_
                rw [ha3]
                refine dk_Vi (As := [.int a1, .int a2, .int a3]) (rest := [.int v1]) ⟨hx, hb, hml, hown, hts⟩ (c_X6_row_2 l g z I1 a1 a2 a3 (dkN_sub h7 rfl) (dkN_sub h9 rfl) (dkN_sub h11 rfl)) (cwV 3 hts gL_law_X6_row rfl rfl rfl (by decide +kernel) ⟨Nat.le_of_ble_eq_true rfl, Nat.le_of_ble_eq_true rfl⟩) (dk_at340 hW) rfl hK hW hS rfl hl.1 rfl (Nat.le_of_ble_eq_true rfl) dL_law_227 ⟨Nat.le_of_ble_eq_true rfl, Nat.le_of_ble_eq_true rfl⟩ (fun v2 I2 H L hp2 hW hS => ?_)
                obtain ⟨dv2, hF2, -⟩ := hp2
                refine lv_icmp_eq (tgt := 1302) hx hb dL_law_230 (by decide) (fun c9 => ?_) (fun c9 => ?_)
                · exact hend _ _ ls hS hl
                · exact absurd (Int32.toInt_inj.mp ((dkN_one dv1).trans (dkN_one dv2).symm)) c9
          ·
            refine lv_aload_n hx hb dL_law_192 rfl (lv_at hl 2 rfl) ?_
            refine lv_aload_n hx hb dL_law_193 rfl (lv_at hl 3 rfl) ?_
            refine lv_iload_n hx hb dL_law_194 rfl (lv_at hl 0 rfl) ?_
            refine lv_iconst (v := 1) hx hb dL_law_195 (by decide) ?_
            refine lv_iadd hx hb dL_law_196 ?_
            refine va_sld hx hb hX hbl hbA hS (hin 1 (by decide)) dL_law_197 ?_
            rw [ha1]
            refine lv_aload_n hx hb dL_law_198 rfl (lv_at hl 3 rfl) ?_
            refine lv_iload_n hx hb dL_law_199 rfl (lv_at hl 0 rfl) ?_
            refine lv_iconst (v := 2) hx hb dL_law_200 (by decide) ?_
            refine lv_iadd hx hb dL_law_201 ?_
            refine va_sld hx hb hX hbl hbA hS (hin 2 (by decide)) dL_law_202 ?_
            rw [ha2]
            refine lv_aload_n hx hb dL_law_203 rfl (lv_at hl 3 rfl) ?_
            refine lv_iload_n hx hb dL_law_204 rfl (lv_at hl 0 rfl) ?_
            refine lv_iconst (v := 3) hx hb dL_law_205 (by decide) ?_
            refine lv_iadd hx hb dL_law_206 ?_
            refine va_sld hx hb hX hbl hbA hS (hin 3 (by decide)) dL_law_207 ?_
            rw [ha3]
            refine dk_Vi (As := [.int a1, .int a2, .int a3]) (rest := []) ⟨hx, hb, hml, hown, hts⟩ (c_X5_row_1 l g z dkI0 a1 a2 a3 (dkN_sub h7 rfl) (dkN_sub h9 rfl)) (cwV 3 hts gL_law_X5_row rfl rfl rfl (by decide +kernel) ⟨Nat.le_of_ble_eq_true rfl, Nat.le_of_ble_eq_true rfl⟩) (dk_at0 hW) rfl hK hW hS rfl hl.1 rfl (Nat.le_of_ble_eq_true rfl) dL_law_208 ⟨Nat.le_of_ble_eq_true rfl, Nat.le_of_ble_eq_true rfl⟩ (fun v1 I1 H L hp1 hW hS => ?_)
            obtain ⟨dv1, hF1, -⟩ := hp1
            refine lv_aload_n hx hb dL_law_211 rfl (lv_at hl 1 rfl) ?_
            refine lv_aload_n hx hb dL_law_212 rfl (lv_at hl 3 rfl) ?_
            refine lv_iload_n hx hb dL_law_213 rfl (lv_at hl 0 rfl) ?_
            refine lv_iconst (v := 1) hx hb dL_law_214 (by decide) ?_
            refine lv_iadd hx hb dL_law_215 ?_
            refine va_sld hx hb hX hbl hbA hS (hin 1 (by decide)) dL_law_216 ?_
            rw [ha1]
            refine lv_aload_n hx hb dL_law_217 rfl (lv_at hl 3 rfl) ?_
            refine lv_iload_n hx hb dL_law_218 rfl (lv_at hl 0 rfl) ?_
            refine lv_iconst (v := 2) hx hb dL_law_219 (by decide) ?_
            refine lv_iadd hx hb dL_law_220 ?_
            refine va_sld hx hb hX hbl hbA hS (hin 2 (by decide)) dL_law_221 ?_
            rw [ha2]
            refine lv_aload_n hx hb dL_law_222 rfl (lv_at hl 3 rfl) ?_
            refine lv_iload_n hx hb dL_law_223 rfl (lv_at hl 0 rfl) ?_
            refine lv_iconst (v := 3) hx hb dL_law_224 (by decide) ?_
            refine lv_iadd hx hb dL_law_225 ?_
            refine va_sld hx hb hX hbl hbA hS (hin 3 (by decide)) dL_law_226 ?_
            rw [ha3]
            refine dk_Vi (As := [.int a1, .int a2, .int a3]) (rest := [.int v1]) ⟨hx, hb, hml, hown, hts⟩ (c_X6_row_1 l g z I1 a1 a2 a3 (dkN_sub h7 rfl) (dkN_sub h9 rfl)) (cwV 3 hts gL_law_X6_row rfl rfl rfl (by decide +kernel) ⟨Nat.le_of_ble_eq_true rfl, Nat.le_of_ble_eq_true rfl⟩) (dk_at340 hW) rfl hK hW hS rfl hl.1 rfl (Nat.le_of_ble_eq_true rfl) dL_law_227 ⟨Nat.le_of_ble_eq_true rfl, Nat.le_of_ble_eq_true rfl⟩ (fun v2 I2 H L hp2 hW hS => ?_)
            obtain ⟨dv2, hF2, -⟩ := hp2
            refine lv_icmp_eq (tgt := 1302) hx hb dL_law_230 (by decide) (fun c9 => ?_) (fun c9 => ?_)
            · exact hend _ _ ls hS hl
            · exact absurd (Int32.toInt_inj.mp ((dkN_one dv1).trans (dkN_one dv2).symm)) c9
      ·
        rcases dkN_cut (2) (3) rfl h7 with h12 | h12
        ·
          rcases dkN_cut (-1) (0) rfl (dkN_top a2) with h13 | h13
          ·
            refine lv_aload_n hx hb dL_law_192 rfl (lv_at hl 2 rfl) ?_
            refine lv_aload_n hx hb dL_law_193 rfl (lv_at hl 3 rfl) ?_
            refine lv_iload_n hx hb dL_law_194 rfl (lv_at hl 0 rfl) ?_
            refine lv_iconst (v := 1) hx hb dL_law_195 (by decide) ?_
            refine lv_iadd hx hb dL_law_196 ?_
            refine va_sld hx hb hX hbl hbA hS (hin 1 (by decide)) dL_law_197 ?_
            rw [ha1]
            refine lv_aload_n hx hb dL_law_198 rfl (lv_at hl 3 rfl) ?_
            refine lv_iload_n hx hb dL_law_199 rfl (lv_at hl 0 rfl) ?_
            refine lv_iconst (v := 2) hx hb dL_law_200 (by decide) ?_
            refine lv_iadd hx hb dL_law_201 ?_
            refine va_sld hx hb hX hbl hbA hS (hin 2 (by decide)) dL_law_202 ?_
            rw [ha2]
            refine lv_aload_n hx hb dL_law_203 rfl (lv_at hl 3 rfl) ?_
            refine lv_iload_n hx hb dL_law_204 rfl (lv_at hl 0 rfl) ?_
            refine lv_iconst (v := 3) hx hb dL_law_205 (by decide) ?_
            refine lv_iadd hx hb dL_law_206 ?_
            refine va_sld hx hb hX hbl hbA hS (hin 3 (by decide)) dL_law_207 ?_
            rw [ha3]
            refine dk_Vi (As := [.int a1, .int a2, .int a3]) (rest := []) ⟨hx, hb, hml, hown, hts⟩ (c_X5_row_1 l g z dkI0 a1 a2 a3 (dkN_sub h12 rfl) (dkN_sub h13 rfl)) (cwV 3 hts gL_law_X5_row rfl rfl rfl (by decide +kernel) ⟨Nat.le_of_ble_eq_true rfl, Nat.le_of_ble_eq_true rfl⟩) (dk_at0 hW) rfl hK hW hS rfl hl.1 rfl (Nat.le_of_ble_eq_true rfl) dL_law_208 ⟨Nat.le_of_ble_eq_true rfl, Nat.le_of_ble_eq_true rfl⟩ (fun v1 I1 H L hp1 hW hS => ?_)
            obtain ⟨dv1, hF1, -⟩ := hp1
            refine lv_aload_n hx hb dL_law_211 rfl (lv_at hl 1 rfl) ?_
            refine lv_aload_n hx hb dL_law_212 rfl (lv_at hl 3 rfl) ?_
            refine lv_iload_n hx hb dL_law_213 rfl (lv_at hl 0 rfl) ?_
            refine lv_iconst (v := 1) hx hb dL_law_214 (by decide) ?_
            refine lv_iadd hx hb dL_law_215 ?_
            refine va_sld hx hb hX hbl hbA hS (hin 1 (by decide)) dL_law_216 ?_
            rw [ha1]
            refine lv_aload_n hx hb dL_law_217 rfl (lv_at hl 3 rfl) ?_
            refine lv_iload_n hx hb dL_law_218 rfl (lv_at hl 0 rfl) ?_
            refine lv_iconst (v := 2) hx hb dL_law_219 (by decide) ?_
            refine lv_iadd hx hb dL_law_220 ?_
            refine va_sld hx hb hX hbl hbA hS (hin 2 (by decide)) dL_law_221 ?_
            rw [ha2]
            refine lv_aload_n hx hb dL_law_222 rfl (lv_at hl 3 rfl) ?_
            refine lv_iload_n hx hb dL_law_223 rfl (lv_at hl 0 rfl) ?_
            refine lv_iconst (v := 3) hx hb dL_law_224 (by decide) ?_
            refine lv_iadd hx hb dL_law_225 ?_
            refine va_sld hx hb hX hbl hbA hS (hin 3 (by decide)) dL_law_226 ?_
            rw [ha3]
            refine dk_Vi (As := [.int a1, .int a2, .int a3]) (rest := [.int v1]) ⟨hx, hb, hml, hown, hts⟩ (c_X6_row_1 l g z I1 a1 a2 a3 (dkN_sub h12 rfl) (dkN_sub h13 rfl)) (cwV 3 hts gL_law_X6_row rfl rfl rfl (by decide +kernel) ⟨Nat.le_of_ble_eq_true rfl, Nat.le_of_ble_eq_true rfl⟩) (dk_at340 hW) rfl hK hW hS rfl hl.1 rfl (Nat.le_of_ble_eq_true rfl) dL_law_227 ⟨Nat.le_of_ble_eq_true rfl, Nat.le_of_ble_eq_true rfl⟩ (fun v2 I2 H L hp2 hW hS => ?_)
            obtain ⟨dv2, hF2, -⟩ := hp2
            refine lv_icmp_eq (tgt := 1302) hx hb dL_law_230 (by decide) (fun c9 => ?_) (fun c9 => ?_)
            · exact hend _ _ ls hS hl
            · exact absurd (Int32.toInt_inj.mp ((dkN_one dv1).trans (dkN_one dv2).symm)) c9
          ·
            rcases dkN_cut (2) (3) rfl h13 with h14 | h14
            ·
              rcases dkN_cut (-1) (0) rfl (dkN_top a3) with h15 | h15
              ·
                refine lv_aload_n hx hb dL_law_192 rfl (lv_at hl 2 rfl) ?_
                refine lv_aload_n hx hb dL_law_193 rfl (lv_at hl 3 rfl) ?_
                refine lv_iload_n hx hb dL_law_194 rfl (lv_at hl 0 rfl) ?_
                refine lv_iconst (v := 1) hx hb dL_law_195 (by decide) ?_
                refine lv_iadd hx hb dL_law_196 ?_
                refine va_sld hx hb hX hbl hbA hS (hin 1 (by decide)) dL_law_197 ?_
                rw [ha1]
                refine lv_aload_n hx hb dL_law_198 rfl (lv_at hl 3 rfl) ?_
                refine lv_iload_n hx hb dL_law_199 rfl (lv_at hl 0 rfl) ?_
                refine lv_iconst (v := 2) hx hb dL_law_200 (by decide) ?_
                refine lv_iadd hx hb dL_law_201 ?_
                refine va_sld hx hb hX hbl hbA hS (hin 2 (by decide)) dL_law_202 ?_
                rw [ha2]
                refine lv_aload_n hx hb dL_law_203 rfl (lv_at hl 3 rfl) ?_
                refine lv_iload_n hx hb dL_law_204 rfl (lv_at hl 0 rfl) ?_
                refine lv_iconst (v := 3) hx hb dL_law_205 (by decide) ?_
                refine lv_iadd hx hb dL_law_206 ?_
                refine va_sld hx hb hX hbl hbA hS (hin 3 (by decide)) dL_law_207 ?_
                rw [ha3]
                refine dk_Vi (As := [.int a1, .int a2, .int a3]) (rest := []) ⟨hx, hb, hml, hown, hts⟩ (c_X5_row_3 l g z dkI0 a1 a2 a3 (dkN_sub h12 rfl) (dkN_sub h14 rfl) (dkN_sub h15 rfl)) (cwV 3 hts gL_law_X5_row rfl rfl rfl (by decide +kernel) ⟨Nat.le_of_ble_eq_true rfl, Nat.le_of_ble_eq_true rfl⟩) (dk_at0 hW) rfl hK hW hS rfl hl.1 rfl (Nat.le_of_ble_eq_true rfl) dL_law_208 ⟨Nat.le_of_ble_eq_true rfl, Nat.le_of_ble_eq_true rfl⟩ (fun v1 I1 H L hp1 hW hS => ?_)
                obtain ⟨dv1, hF1, _, -⟩ := hp1
                refine lv_aload_n hx hb dL_law_211 rfl (lv_at hl 1 rfl) ?_
                refine lv_aload_n hx hb dL_law_212 rfl (lv_at hl 3 rfl) ?_
                refine lv_iload_n hx hb dL_law_213 rfl (lv_at hl 0 rfl) ?_
                refine lv_iconst (v := 1) hx hb dL_law_214 (by decide) ?_
                refine lv_iadd hx hb dL_law_215 ?_
                refine va_sld hx hb hX hbl hbA hS (hin 1 (by decide)) dL_law_216 ?_
                rw [ha1]
                refine lv_aload_n hx hb dL_law_217 rfl (lv_at hl 3 rfl) ?_
                refine lv_iload_n hx hb dL_law_218 rfl (lv_at hl 0 rfl) ?_
                refine lv_iconst (v := 2) hx hb dL_law_219 (by decide) ?_
                refine lv_iadd hx hb dL_law_220 ?_
                refine va_sld hx hb hX hbl hbA hS (hin 2 (by decide)) dL_law_221 ?_
                rw [ha2]
                refine lv_aload_n hx hb dL_law_222 rfl (lv_at hl 3 rfl) ?_
                refine lv_iload_n hx hb dL_law_223 rfl (lv_at hl 0 rfl) ?_
                refine lv_iconst (v := 3) hx hb dL_law_224 (by decide) ?_
                refine lv_iadd hx hb dL_law_225 ?_
                refine va_sld hx hb hX hbl hbA hS (hin 3 (by decide)) dL_law_226 ?_
                rw [ha3]
                refine dk_Vi (As := [.int a1, .int a2, .int a3]) (rest := [.int v1]) ⟨hx, hb, hml, hown, hts⟩ (c_X6_row_3 l g z I1 a1 a2 a3 (dkN_sub h12 rfl) (dkN_sub h14 rfl) (dkN_sub h15 rfl)) (cwV 3 hts gL_law_X6_row rfl rfl rfl (by decide +kernel) ⟨Nat.le_of_ble_eq_true rfl, Nat.le_of_ble_eq_true rfl⟩) (dk_at340 hW) rfl hK hW hS rfl hl.1 rfl (Nat.le_of_ble_eq_true rfl) dL_law_227 ⟨Nat.le_of_ble_eq_true rfl, Nat.le_of_ble_eq_true rfl⟩ (fun v2 I2 H L hp2 hW hS => ?_)
                obtain ⟨dv2, hF2, _, -⟩ := hp2
                refine lv_icmp_eq (tgt := 1302) hx hb dL_law_230 (by decide) (fun c9 => ?_) (fun c9 => ?_)
                · exact hend _ _ ls hS hl
                · exact absurd (Int32.toInt_inj.mp ((dkN_one dv1).trans (dkN_one dv2).symm)) c9
              ·
                rcases dkN_cut (40) (41) rfl h15 with h16 | h16
                ·
                  refine lv_aload_n hx hb dL_law_192 rfl (lv_at hl 2 rfl) ?_
                  refine lv_aload_n hx hb dL_law_193 rfl (lv_at hl 3 rfl) ?_
                  refine lv_iload_n hx hb dL_law_194 rfl (lv_at hl 0 rfl) ?_
                  refine lv_iconst (v := 1) hx hb dL_law_195 (by decide) ?_
                  refine lv_iadd hx hb dL_law_196 ?_
                  refine va_sld hx hb hX hbl hbA hS (hin 1 (by decide)) dL_law_197 ?_
                  rw [ha1]
                  refine lv_aload_n hx hb dL_law_198 rfl (lv_at hl 3 rfl) ?_
                  refine lv_iload_n hx hb dL_law_199 rfl (lv_at hl 0 rfl) ?_
                  refine lv_iconst (v := 2) hx hb dL_law_200 (by decide) ?_
                  refine lv_iadd hx hb dL_law_201 ?_
                  refine va_sld hx hb hX hbl hbA hS (hin 2 (by decide)) dL_law_202 ?_
                  rw [ha2]
                  refine lv_aload_n hx hb dL_law_203 rfl (lv_at hl 3 rfl) ?_
                  refine lv_iload_n hx hb dL_law_204 rfl (lv_at hl 0 rfl) ?_
                  refine lv_iconst (v := 3) hx hb dL_law_205 (by decide) ?_
                  refine lv_iadd hx hb dL_law_206 ?_
                  refine va_sld hx hb hX hbl hbA hS (hin 3 (by decide)) dL_law_207 ?_
                  rw [ha3]
                  refine dk_Vi (As := [.int a1, .int a2, .int a3]) (rest := []) ⟨hx, hb, hml, hown, hts⟩ (c_X5_row_6 l g z dkI0 a1 a2 a3 (dkN_sub h12 rfl) (dkN_sub h14 rfl) (dkN_sub h16 rfl) (dkN_lit (0) rfl)) (cwV 3 hts gL_law_X5_row rfl rfl rfl (by decide +kernel) ⟨Nat.le_of_ble_eq_true rfl, Nat.le_of_ble_eq_true rfl⟩) (dk_at0 hW) rfl hK hW hS rfl hl.1 rfl (Nat.le_of_ble_eq_true rfl) dL_law_208 ⟨Nat.le_of_ble_eq_true rfl, Nat.le_of_ble_eq_true rfl⟩ (fun v1 I1 H L hp1 hW hS => ?_)
                  obtain ⟨dv1, hF1, _, ev1, -⟩ := hp1
                  refine lv_aload_n hx hb dL_law_211 rfl (lv_at hl 1 rfl) ?_
                  refine lv_aload_n hx hb dL_law_212 rfl (lv_at hl 3 rfl) ?_
                  refine lv_iload_n hx hb dL_law_213 rfl (lv_at hl 0 rfl) ?_
                  refine lv_iconst (v := 1) hx hb dL_law_214 (by decide) ?_
                  refine lv_iadd hx hb dL_law_215 ?_
                  refine va_sld hx hb hX hbl hbA hS (hin 1 (by decide)) dL_law_216 ?_
                  rw [ha1]
                  refine lv_aload_n hx hb dL_law_217 rfl (lv_at hl 3 rfl) ?_
                  refine lv_iload_n hx hb dL_law_218 rfl (lv_at hl 0 rfl) ?_
                  refine lv_iconst (v := 2) hx hb dL_law_219 (by decide) ?_
                  refine lv_iadd hx hb dL_law_220 ?_
                  refine va_sld hx hb hX hbl hbA hS (hin 2 (by decide)) dL_law_221 ?_
                  rw [ha2]
                  refine lv_aload_n hx hb dL_law_222 rfl (lv_at hl 3 rfl) ?_
                  refine lv_iload_n hx hb dL_law_223 rfl (lv_at hl 0 rfl) ?_
                  refine lv_iconst (v := 3) hx hb dL_law_224 (by decide) ?_
                  refine lv_iadd hx hb dL_law_225 ?_
                  refine va_sld hx hb hX hbl hbA hS (hin 3 (by decide)) dL_law_226 ?_
                  rw [ha3]
                  refine dk_Vi (As := [.int a1, .int a2, .int a3]) (rest := [.int v1]) ⟨hx, hb, hml, hown, hts⟩ (c_X6_row_6 l g z I1 a1 a2 a3 (dkN_sub h12 rfl) (dkN_sub h14 rfl) (dkN_sub h16 rfl) (by rw [hF1 340 4 rfl]; exact dkN_lit (0) rfl)) (cwV 3 hts gL_law_X6_row rfl rfl rfl (by decide +kernel) ⟨Nat.le_of_ble_eq_true rfl, Nat.le_of_ble_eq_true rfl⟩) (dk_at340 hW) rfl hK hW hS rfl hl.1 rfl (Nat.le_of_ble_eq_true rfl) dL_law_227 ⟨Nat.le_of_ble_eq_true rfl, Nat.le_of_ble_eq_true rfl⟩ (fun v2 I2 H L hp2 hW hS => ?_)
                  obtain ⟨dv2, hF2, _, ev2, -⟩ := hp2
                  refine lv_icmp_eq (tgt := 1302) hx hb dL_law_230 (by decide) (fun c9 => ?_) (fun c9 => ?_)
                  · exact hend _ _ ls hS hl
                  · exact absurd (ev1.trans ev2.symm) c9
                ·
                  refine lv_aload_n hx hb dL_law_192 rfl (lv_at hl 2 rfl) ?_
                  refine lv_aload_n hx hb dL_law_193 rfl (lv_at hl 3 rfl) ?_
                  refine lv_iload_n hx hb dL_law_194 rfl (lv_at hl 0 rfl) ?_
                  refine lv_iconst (v := 1) hx hb dL_law_195 (by decide) ?_
                  refine lv_iadd hx hb dL_law_196 ?_
                  refine va_sld hx hb hX hbl hbA hS (hin 1 (by decide)) dL_law_197 ?_
                  rw [ha1]
                  refine lv_aload_n hx hb dL_law_198 rfl (lv_at hl 3 rfl) ?_
                  refine lv_iload_n hx hb dL_law_199 rfl (lv_at hl 0 rfl) ?_
                  refine lv_iconst (v := 2) hx hb dL_law_200 (by decide) ?_
                  refine lv_iadd hx hb dL_law_201 ?_
                  refine va_sld hx hb hX hbl hbA hS (hin 2 (by decide)) dL_law_202 ?_
                  rw [ha2]
                  refine lv_aload_n hx hb dL_law_203 rfl (lv_at hl 3 rfl) ?_
                  refine lv_iload_n hx hb dL_law_204 rfl (lv_at hl 0 rfl) ?_
                  refine lv_iconst (v := 3) hx hb dL_law_205 (by decide) ?_
                  refine lv_iadd hx hb dL_law_206 ?_
                  refine va_sld hx hb hX hbl hbA hS (hin 3 (by decide)) dL_law_207 ?_
                  rw [ha3]
                  refine dk_Vi (As := [.int a1, .int a2, .int a3]) (rest := []) ⟨hx, hb, hml, hown, hts⟩ (c_X5_row_2 l g z dkI0 a1 a2 a3 (dkN_sub h12 rfl) (dkN_sub h14 rfl) (dkN_sub h16 rfl)) (cwV 3 hts gL_law_X5_row rfl rfl rfl (by decide +kernel) ⟨Nat.le_of_ble_eq_true rfl, Nat.le_of_ble_eq_true rfl⟩) (dk_at0 hW) rfl hK hW hS rfl hl.1 rfl (Nat.le_of_ble_eq_true rfl) dL_law_208 ⟨Nat.le_of_ble_eq_true rfl, Nat.le_of_ble_eq_true rfl⟩ (fun v1 I1 H L hp1 hW hS => ?_)
                  obtain ⟨dv1, hF1, -⟩ := hp1
                  refine lv_aload_n hx hb dL_law_211 rfl (lv_at hl 1 rfl) ?_
                  refine lv_aload_n hx hb dL_law_212 rfl (lv_at hl 3 rfl) ?_
                  refine lv_iload_n hx hb dL_law_213 rfl (lv_at hl 0 rfl) ?_
                  refine lv_iconst (v := 1) hx hb dL_law_214 (by decide) ?_
                  refine lv_iadd hx hb dL_law_215 ?_
                  refine va_sld hx hb hX hbl hbA hS (hin 1 (by decide)) dL_law_216 ?_
                  rw [ha1]
                  refine lv_aload_n hx hb dL_law_217 rfl (lv_at hl 3 rfl) ?_
                  refine lv_iload_n hx hb dL_law_218 rfl (lv_at hl 0 rfl) ?_
                  refine lv_iconst (v := 2) hx hb dL_law_219 (by decide) ?_
                  refine lv_iadd hx hb dL_law_220 ?_
                  refine va_sld hx hb hX hbl hbA hS (hin 2 (by decide)) dL_law_221 ?_
                  rw [ha2]
                  refine lv_aload_n hx hb dL_law_222 rfl (lv_at hl 3 rfl) ?_
                  refine lv_iload_n hx hb dL_law_223 rfl (lv_at hl 0 rfl) ?_
                  refine lv_iconst (v := 3) hx hb dL_law_224 (by decide) ?_
                  refine lv_iadd hx hb dL_law_225 ?_
                  refine va_sld hx hb hX hbl hbA hS (hin 3 (by decide)) dL_law_226 ?_
                  rw [ha3]
                  refine dk_Vi (As := [.int a1, .int a2, .int a3]) (rest := [.int v1]) ⟨hx, hb, hml, hown, hts⟩ (c_X6_row_2 l g z I1 a1 a2 a3 (dkN_sub h12 rfl) (dkN_sub h14 rfl) (dkN_sub h16 rfl)) (cwV 3 hts gL_law_X6_row rfl rfl rfl (by decide +kernel) ⟨Nat.le_of_ble_eq_true rfl, Nat.le_of_ble_eq_true rfl⟩) (dk_at340 hW) rfl hK hW hS rfl hl.1 rfl (Nat.le_of_ble_eq_true rfl) dL_law_227 ⟨Nat.le_of_ble_eq_true rfl, Nat.le_of_ble_eq_true rfl⟩ (fun v2 I2 H L hp2 hW hS => ?_)
                  obtain ⟨dv2, hF2, -⟩ := hp2
                  refine lv_icmp_eq (tgt := 1302) hx hb dL_law_230 (by decide) (fun c9 => ?_) (fun c9 => ?_)
                  · exact hend _ _ ls hS hl
                  · exact absurd (Int32.toInt_inj.mp ((dkN_one dv1).trans (dkN_one dv2).symm)) c9
            ·
              refine lv_aload_n hx hb dL_law_192 rfl (lv_at hl 2 rfl) ?_
              refine lv_aload_n hx hb dL_law_193 rfl (lv_at hl 3 rfl) ?_
              refine lv_iload_n hx hb dL_law_194 rfl (lv_at hl 0 rfl) ?_
              refine lv_iconst (v := 1) hx hb dL_law_195 (by decide) ?_
              refine lv_iadd hx hb dL_law_196 ?_
              refine va_sld hx hb hX hbl hbA hS (hin 1 (by decide)) dL_law_197 ?_
              rw [ha1]
              refine lv_aload_n hx hb dL_law_198 rfl (lv_at hl 3 rfl) ?_
              refine lv_iload_n hx hb dL_law_199 rfl (lv_at hl 0 rfl) ?_
              refine lv_iconst (v := 2) hx hb dL_law_200 (by decide) ?_
              refine lv_iadd hx hb dL_law_201 ?_
              refine va_sld hx hb hX hbl hbA hS (hin 2 (by decide)) dL_law_202 ?_
              rw [ha2]
              refine lv_aload_n hx hb dL_law_203 rfl (lv_at hl 3 rfl) ?_
              refine lv_iload_n hx hb dL_law_204 rfl (lv_at hl 0 rfl) ?_
              refine lv_iconst (v := 3) hx hb dL_law_205 (by decide) ?_
              refine lv_iadd hx hb dL_law_206 ?_
              refine va_sld hx hb hX hbl hbA hS (hin 3 (by decide)) dL_law_207 ?_
              rw [ha3]
              refine dk_Vi (As := [.int a1, .int a2, .int a3]) (rest := []) ⟨hx, hb, hml, hown, hts⟩ (c_X5_row_1 l g z dkI0 a1 a2 a3 (dkN_sub h12 rfl) (dkN_sub h14 rfl)) (cwV 3 hts gL_law_X5_row rfl rfl rfl (by decide +kernel) ⟨Nat.le_of_ble_eq_true rfl, Nat.le_of_ble_eq_true rfl⟩) (dk_at0 hW) rfl hK hW hS rfl hl.1 rfl (Nat.le_of_ble_eq_true rfl) dL_law_208 ⟨Nat.le_of_ble_eq_true rfl, Nat.le_of_ble_eq_true rfl⟩ (fun v1 I1 H L hp1 hW hS => ?_)
              obtain ⟨dv1, hF1, -⟩ := hp1
              refine lv_aload_n hx hb dL_law_211 rfl (lv_at hl 1 rfl) ?_
              refine lv_aload_n hx hb dL_law_212 rfl (lv_at hl 3 rfl) ?_
              refine lv_iload_n hx hb dL_law_213 rfl (lv_at hl 0 rfl) ?_
              refine lv_iconst (v := 1) hx hb dL_law_214 (by decide) ?_
              refine lv_iadd hx hb dL_law_215 ?_
              refine va_sld hx hb hX hbl hbA hS (hin 1 (by decide)) dL_law_216 ?_
              rw [ha1]
              refine lv_aload_n hx hb dL_law_217 rfl (lv_at hl 3 rfl) ?_
              refine lv_iload_n hx hb dL_law_218 rfl (lv_at hl 0 rfl) ?_
              refine lv_iconst (v := 2) hx hb dL_law_219 (by decide) ?_
              refine lv_iadd hx hb dL_law_220 ?_
              refine va_sld hx hb hX hbl hbA hS (hin 2 (by decide)) dL_law_221 ?_
              rw [ha2]
              refine lv_aload_n hx hb dL_law_222 rfl (lv_at hl 3 rfl) ?_
              refine lv_iload_n hx hb dL_law_223 rfl (lv_at hl 0 rfl) ?_
              refine lv_iconst (v := 3) hx hb dL_law_224 (by decide) ?_
              refine lv_iadd hx hb dL_law_225 ?_
              refine va_sld hx hb hX hbl hbA hS (hin 3 (by decide)) dL_law_226 ?_
              rw [ha3]
              refine dk_Vi (As := [.int a1, .int a2, .int a3]) (rest := [.int v1]) ⟨hx, hb, hml, hown, hts⟩ (c_X6_row_1 l g z I1 a1 a2 a3 (dkN_sub h12 rfl) (dkN_sub h14 rfl)) (cwV 3 hts gL_law_X6_row rfl rfl rfl (by decide +kernel) ⟨Nat.le_of_ble_eq_true rfl, Nat.le_of_ble_eq_true rfl⟩) (dk_at340 hW) rfl hK hW hS rfl hl.1 rfl (Nat.le_of_ble_eq_true rfl) dL_law_227 ⟨Nat.le_of_ble_eq_true rfl, Nat.le_of_ble_eq_true rfl⟩ (fun v2 I2 H L hp2 hW hS => ?_)
              obtain ⟨dv2, hF2, -⟩ := hp2
              refine lv_icmp_eq (tgt := 1302) hx hb dL_law_230 (by decide) (fun c9 => ?_) (fun c9 => ?_)
              · exact hend _ _ ls hS hl
              · exact absurd (Int32.toInt_inj.mp ((dkN_one dv1).trans (dkN_one dv2).symm)) c9
        ·
          rcases dkN_cut (3) (4) rfl h12 with h17 | h17
          ·
            rcases dkN_cut (-1) (0) rfl (dkN_top a2) with h18 | h18
            ·
              refine lv_aload_n hx hb dL_law_192 rfl (lv_at hl 2 rfl) ?_
              refine lv_aload_n hx hb dL_law_193 rfl (lv_at hl 3 rfl) ?_
              refine lv_iload_n hx hb dL_law_194 rfl (lv_at hl 0 rfl) ?_
              refine lv_iconst (v := 1) hx hb dL_law_195 (by decide) ?_
              refine lv_iadd hx hb dL_law_196 ?_
              refine va_sld hx hb hX hbl hbA hS (hin 1 (by decide)) dL_law_197 ?_
              rw [ha1]
              refine lv_aload_n hx hb dL_law_198 rfl (lv_at hl 3 rfl) ?_
              refine lv_iload_n hx hb dL_law_199 rfl (lv_at hl 0 rfl) ?_
              refine lv_iconst (v := 2) hx hb dL_law_200 (by decide) ?_
              refine lv_iadd hx hb dL_law_201 ?_
              refine va_sld hx hb hX hbl hbA hS (hin 2 (by decide)) dL_law_202 ?_
              rw [ha2]
              refine lv_aload_n hx hb dL_law_203 rfl (lv_at hl 3 rfl) ?_
              refine lv_iload_n hx hb dL_law_204 rfl (lv_at hl 0 rfl) ?_
              refine lv_iconst (v := 3) hx hb dL_law_205 (by decide) ?_
              refine lv_iadd hx hb dL_law_206 ?_
              refine va_sld hx hb hX hbl hbA hS (hin 3 (by decide)) dL_law_207 ?_
              rw [ha3]
              refine dk_Vi (As := [.int a1, .int a2, .int a3]) (rest := []) ⟨hx, hb, hml, hown, hts⟩ (c_X5_row_1 l g z dkI0 a1 a2 a3 (dkN_sub h17 rfl) (dkN_sub h18 rfl)) (cwV 3 hts gL_law_X5_row rfl rfl rfl (by decide +kernel) ⟨Nat.le_of_ble_eq_true rfl, Nat.le_of_ble_eq_true rfl⟩) (dk_at0 hW) rfl hK hW hS rfl hl.1 rfl (Nat.le_of_ble_eq_true rfl) dL_law_208 ⟨Nat.le_of_ble_eq_true rfl, Nat.le_of_ble_eq_true rfl⟩ (fun v1 I1 H L hp1 hW hS => ?_)
              obtain ⟨dv1, hF1, -⟩ := hp1
              refine lv_aload_n hx hb dL_law_211 rfl (lv_at hl 1 rfl) ?_
              refine lv_aload_n hx hb dL_law_212 rfl (lv_at hl 3 rfl) ?_
              refine lv_iload_n hx hb dL_law_213 rfl (lv_at hl 0 rfl) ?_
              refine lv_iconst (v := 1) hx hb dL_law_214 (by decide) ?_
              refine lv_iadd hx hb dL_law_215 ?_
              refine va_sld hx hb hX hbl hbA hS (hin 1 (by decide)) dL_law_216 ?_
              rw [ha1]
              refine lv_aload_n hx hb dL_law_217 rfl (lv_at hl 3 rfl) ?_
              refine lv_iload_n hx hb dL_law_218 rfl (lv_at hl 0 rfl) ?_
              refine lv_iconst (v := 2) hx hb dL_law_219 (by decide) ?_
              refine lv_iadd hx hb dL_law_220 ?_
              refine va_sld hx hb hX hbl hbA hS (hin 2 (by decide)) dL_law_221 ?_
              rw [ha2]
              refine lv_aload_n hx hb dL_law_222 rfl (lv_at hl 3 rfl) ?_
              refine lv_iload_n hx hb dL_law_223 rfl (lv_at hl 0 rfl) ?_
              refine lv_iconst (v := 3) hx hb dL_law_224 (by decide) ?_
              refine lv_iadd hx hb dL_law_225 ?_
              refine va_sld hx hb hX hbl hbA hS (hin 3 (by decide)) dL_law_226 ?_
              rw [ha3]
              refine dk_Vi (As := [.int a1, .int a2, .int a3]) (rest := [.int v1]) ⟨hx, hb, hml, hown, hts⟩ (c_X6_row_1 l g z I1 a1 a2 a3 (dkN_sub h17 rfl) (dkN_sub h18 rfl)) (cwV 3 hts gL_law_X6_row rfl rfl rfl (by decide +kernel) ⟨Nat.le_of_ble_eq_true rfl, Nat.le_of_ble_eq_true rfl⟩) (dk_at340 hW) rfl hK hW hS rfl hl.1 rfl (Nat.le_of_ble_eq_true rfl) dL_law_227 ⟨Nat.le_of_ble_eq_true rfl, Nat.le_of_ble_eq_true rfl⟩ (fun v2 I2 H L hp2 hW hS => ?_)
              obtain ⟨dv2, hF2, -⟩ := hp2
              refine lv_icmp_eq (tgt := 1302) hx hb dL_law_230 (by decide) (fun c9 => ?_) (fun c9 => ?_)
              · exact hend _ _ ls hS hl
              · exact absurd (Int32.toInt_inj.mp ((dkN_one dv1).trans (dkN_one dv2).symm)) c9
            ·
              rcases dkN_cut (2) (3) rfl h18 with h19 | h19
              ·
                rcases dkN_cut (-1) (0) rfl (dkN_top a3) with h20 | h20
                ·
                  refine lv_aload_n hx hb dL_law_192 rfl (lv_at hl 2 rfl) ?_
                  refine lv_aload_n hx hb dL_law_193 rfl (lv_at hl 3 rfl) ?_
                  refine lv_iload_n hx hb dL_law_194 rfl (lv_at hl 0 rfl) ?_
                  refine lv_iconst (v := 1) hx hb dL_law_195 (by decide) ?_
                  refine lv_iadd hx hb dL_law_196 ?_
                  refine va_sld hx hb hX hbl hbA hS (hin 1 (by decide)) dL_law_197 ?_
                  rw [ha1]
                  refine lv_aload_n hx hb dL_law_198 rfl (lv_at hl 3 rfl) ?_
                  refine lv_iload_n hx hb dL_law_199 rfl (lv_at hl 0 rfl) ?_
                  refine lv_iconst (v := 2) hx hb dL_law_200 (by decide) ?_
                  refine lv_iadd hx hb dL_law_201 ?_
                  refine va_sld hx hb hX hbl hbA hS (hin 2 (by decide)) dL_law_202 ?_
                  rw [ha2]
                  refine lv_aload_n hx hb dL_law_203 rfl (lv_at hl 3 rfl) ?_
                  refine lv_iload_n hx hb dL_law_204 rfl (lv_at hl 0 rfl) ?_
                  refine lv_iconst (v := 3) hx hb dL_law_205 (by decide) ?_
                  refine lv_iadd hx hb dL_law_206 ?_
                  refine va_sld hx hb hX hbl hbA hS (hin 3 (by decide)) dL_law_207 ?_
                  rw [ha3]
                  refine dk_Vi (As := [.int a1, .int a2, .int a3]) (rest := []) ⟨hx, hb, hml, hown, hts⟩ (c_X5_row_3 l g z dkI0 a1 a2 a3 (dkN_sub h17 rfl) (dkN_sub h19 rfl) (dkN_sub h20 rfl)) (cwV 3 hts gL_law_X5_row rfl rfl rfl (by decide +kernel) ⟨Nat.le_of_ble_eq_true rfl, Nat.le_of_ble_eq_true rfl⟩) (dk_at0 hW) rfl hK hW hS rfl hl.1 rfl (Nat.le_of_ble_eq_true rfl) dL_law_208 ⟨Nat.le_of_ble_eq_true rfl, Nat.le_of_ble_eq_true rfl⟩ (fun v1 I1 H L hp1 hW hS => ?_)
                  obtain ⟨dv1, hF1, _, -⟩ := hp1
                  refine lv_aload_n hx hb dL_law_211 rfl (lv_at hl 1 rfl) ?_
                  refine lv_aload_n hx hb dL_law_212 rfl (lv_at hl 3 rfl) ?_
                  refine lv_iload_n hx hb dL_law_213 rfl (lv_at hl 0 rfl) ?_
                  refine lv_iconst (v := 1) hx hb dL_law_214 (by decide) ?_
                  refine lv_iadd hx hb dL_law_215 ?_
                  refine va_sld hx hb hX hbl hbA hS (hin 1 (by decide)) dL_law_216 ?_
                  rw [ha1]
                  refine lv_aload_n hx hb dL_law_217 rfl (lv_at hl 3 rfl) ?_
                  refine lv_iload_n hx hb dL_law_218 rfl (lv_at hl 0 rfl) ?_
                  refine lv_iconst (v := 2) hx hb dL_law_219 (by decide) ?_
                  refine lv_iadd hx hb dL_law_220 ?_
                  refine va_sld hx hb hX hbl hbA hS (hin 2 (by decide)) dL_law_221 ?_
                  rw [ha2]
                  refine lv_aload_n hx hb dL_law_222 rfl (lv_at hl 3 rfl) ?_
                  refine lv_iload_n hx hb dL_law_223 rfl (lv_at hl 0 rfl) ?_
                  refine lv_iconst (v := 3) hx hb dL_law_224 (by decide) ?_
                  refine lv_iadd hx hb dL_law_225 ?_
                  refine va_sld hx hb hX hbl hbA hS (hin 3 (by decide)) dL_law_226 ?_
                  rw [ha3]
                  refine dk_Vi (As := [.int a1, .int a2, .int a3]) (rest := [.int v1]) ⟨hx, hb, hml, hown, hts⟩ (c_X6_row_3 l g z I1 a1 a2 a3 (dkN_sub h17 rfl) (dkN_sub h19 rfl) (dkN_sub h20 rfl)) (cwV 3 hts gL_law_X6_row rfl rfl rfl (by decide +kernel) ⟨Nat.le_of_ble_eq_true rfl, Nat.le_of_ble_eq_true rfl⟩) (dk_at340 hW) rfl hK hW hS rfl hl.1 rfl (Nat.le_of_ble_eq_true rfl) dL_law_227 ⟨Nat.le_of_ble_eq_true rfl, Nat.le_of_ble_eq_true rfl⟩ (fun v2 I2 H L hp2 hW hS => ?_)
                  obtain ⟨dv2, hF2, _, -⟩ := hp2
                  refine lv_icmp_eq (tgt := 1302) hx hb dL_law_230 (by decide) (fun c9 => ?_) (fun c9 => ?_)
                  · exact hend _ _ ls hS hl
                  · exact absurd (Int32.toInt_inj.mp ((dkN_one dv1).trans (dkN_one dv2).symm)) c9
                ·
                  rcases dkN_cut (40) (41) rfl h20 with h21 | h21
                  ·
                    refine lv_aload_n hx hb dL_law_192 rfl (lv_at hl 2 rfl) ?_
                    refine lv_aload_n hx hb dL_law_193 rfl (lv_at hl 3 rfl) ?_
                    refine lv_iload_n hx hb dL_law_194 rfl (lv_at hl 0 rfl) ?_
                    refine lv_iconst (v := 1) hx hb dL_law_195 (by decide) ?_
                    refine lv_iadd hx hb dL_law_196 ?_
                    refine va_sld hx hb hX hbl hbA hS (hin 1 (by decide)) dL_law_197 ?_
                    rw [ha1]
                    refine lv_aload_n hx hb dL_law_198 rfl (lv_at hl 3 rfl) ?_
                    refine lv_iload_n hx hb dL_law_199 rfl (lv_at hl 0 rfl) ?_
                    refine lv_iconst (v := 2) hx hb dL_law_200 (by decide) ?_
                    refine lv_iadd hx hb dL_law_201 ?_
                    refine va_sld hx hb hX hbl hbA hS (hin 2 (by decide)) dL_law_202 ?_
                    rw [ha2]
                    refine lv_aload_n hx hb dL_law_203 rfl (lv_at hl 3 rfl) ?_
                    refine lv_iload_n hx hb dL_law_204 rfl (lv_at hl 0 rfl) ?_
                    refine lv_iconst (v := 3) hx hb dL_law_205 (by decide) ?_
                    refine lv_iadd hx hb dL_law_206 ?_
                    refine va_sld hx hb hX hbl hbA hS (hin 3 (by decide)) dL_law_207 ?_
                    rw [ha3]
                    refine dk_Vi (As := [.int a1, .int a2, .int a3]) (rest := []) ⟨hx, hb, hml, hown, hts⟩ (c_X5_row_7 l g z dkI0 a1 a2 a3 (dkN_sub h17 rfl) (dkN_sub h19 rfl) (dkN_sub h21 rfl) (dkN_lit (0) rfl)) (cwV 3 hts gL_law_X5_row rfl rfl rfl (by decide +kernel) ⟨Nat.le_of_ble_eq_true rfl, Nat.le_of_ble_eq_true rfl⟩) (dk_at0 hW) rfl hK hW hS rfl hl.1 rfl (Nat.le_of_ble_eq_true rfl) dL_law_208 ⟨Nat.le_of_ble_eq_true rfl, Nat.le_of_ble_eq_true rfl⟩ (fun v1 I1 H L hp1 hW hS => ?_)
                    obtain ⟨dv1, hF1, _, ev1, -⟩ := hp1
                    refine lv_aload_n hx hb dL_law_211 rfl (lv_at hl 1 rfl) ?_
                    refine lv_aload_n hx hb dL_law_212 rfl (lv_at hl 3 rfl) ?_
                    refine lv_iload_n hx hb dL_law_213 rfl (lv_at hl 0 rfl) ?_
                    refine lv_iconst (v := 1) hx hb dL_law_214 (by decide) ?_
                    refine lv_iadd hx hb dL_law_215 ?_
                    refine va_sld hx hb hX hbl hbA hS (hin 1 (by decide)) dL_law_216 ?_
                    rw [ha1]
                    refine lv_aload_n hx hb dL_law_217 rfl (lv_at hl 3 rfl) ?_
                    refine lv_iload_n hx hb dL_law_218 rfl (lv_at hl 0 rfl) ?_
                    refine lv_iconst (v := 2) hx hb dL_law_219 (by decide) ?_
                    refine lv_iadd hx hb dL_law_220 ?_
                    refine va_sld hx hb hX hbl hbA hS (hin 2 (by decide)) dL_law_221 ?_
                    rw [ha2]
                    refine lv_aload_n hx hb dL_law_222 rfl (lv_at hl 3 rfl) ?_
                    refine lv_iload_n hx hb dL_law_223 rfl (lv_at hl 0 rfl) ?_
                    refine lv_iconst (v := 3) hx hb dL_law_224 (by decide) ?_
                    refine lv_iadd hx hb dL_law_225 ?_
                    refine va_sld hx hb hX hbl hbA hS (hin 3 (by decide)) dL_law_226 ?_
                    rw [ha3]
                    refine dk_Vi (As := [.int a1, .int a2, .int a3]) (rest := [.int v1]) ⟨hx, hb, hml, hown, hts⟩ (c_X6_row_7 l g z I1 a1 a2 a3 (dkN_sub h17 rfl) (dkN_sub h19 rfl) (dkN_sub h21 rfl) (by rw [hF1 340 4 rfl]; exact dkN_lit (0) rfl)) (cwV 3 hts gL_law_X6_row rfl rfl rfl (by decide +kernel) ⟨Nat.le_of_ble_eq_true rfl, Nat.le_of_ble_eq_true rfl⟩) (dk_at340 hW) rfl hK hW hS rfl hl.1 rfl (Nat.le_of_ble_eq_true rfl) dL_law_227 ⟨Nat.le_of_ble_eq_true rfl, Nat.le_of_ble_eq_true rfl⟩ (fun v2 I2 H L hp2 hW hS => ?_)
                    obtain ⟨dv2, hF2, _, ev2, -⟩ := hp2
                    refine lv_icmp_eq (tgt := 1302) hx hb dL_law_230 (by decide) (fun c9 => ?_) (fun c9 => ?_)
                    · exact hend _ _ ls hS hl
                    · exact absurd (ev1.trans ev2.symm) c9
                  ·
                    refine lv_aload_n hx hb dL_law_192 rfl (lv_at hl 2 rfl) ?_
                    refine lv_aload_n hx hb dL_law_193 rfl (lv_at hl 3 rfl) ?_
                    refine lv_iload_n hx hb dL_law_194 rfl (lv_at hl 0 rfl) ?_
                    refine lv_iconst (v := 1) hx hb dL_law_195 (by decide) ?_
                    refine lv_iadd hx hb dL_law_196 ?_
                    refine va_sld hx hb hX hbl hbA hS (hin 1 (by decide)) dL_law_197 ?_
                    rw [ha1]
                    refine lv_aload_n hx hb dL_law_198 rfl (lv_at hl 3 rfl) ?_
                    refine lv_iload_n hx hb dL_law_199 rfl (lv_at hl 0 rfl) ?_
                    refine lv_iconst (v := 2) hx hb dL_law_200 (by decide) ?_
                    refine lv_iadd hx hb dL_law_201 ?_
                    refine va_sld hx hb hX hbl hbA hS (hin 2 (by decide)) dL_law_202 ?_
                    rw [ha2]
                    refine lv_aload_n hx hb dL_law_203 rfl (lv_at hl 3 rfl) ?_
                    refine lv_iload_n hx hb dL_law_204 rfl (lv_at hl 0 rfl) ?_
                    refine lv_iconst (v := 3) hx hb dL_law_205 (by decide) ?_
                    refine lv_iadd hx hb dL_law_206 ?_
                    refine va_sld hx hb hX hbl hbA hS (hin 3 (by decide)) dL_law_207 ?_
                    rw [ha3]
                    refine dk_Vi (As := [.int a1, .int a2, .int a3]) (rest := []) ⟨hx, hb, hml, hown, hts⟩ (c_X5_row_2 l g z dkI0 a1 a2 a3 (dkN_sub h17 rfl) (dkN_sub h19 rfl) (dkN_sub h21 rfl)) (cwV 3 hts gL_law_X5_row rfl rfl rfl (by decide +kernel) ⟨Nat.le_of_ble_eq_true rfl, Nat.le_of_ble_eq_true rfl⟩) (dk_at0 hW) rfl hK hW hS rfl hl.1 rfl (Nat.le_of_ble_eq_true rfl) dL_law_208 ⟨Nat.le_of_ble_eq_true rfl, Nat.le_of_ble_eq_true rfl⟩ (fun v1 I1 H L hp1 hW hS => ?_)
                    obtain ⟨dv1, hF1, -⟩ := hp1
                    refine lv_aload_n hx hb dL_law_211 rfl (lv_at hl 1 rfl) ?_
                    refine lv_aload_n hx hb dL_law_212 rfl (lv_at hl 3 rfl) ?_
                    refine lv_iload_n hx hb dL_law_213 rfl (lv_at hl 0 rfl) ?_
                    refine lv_iconst (v := 1) hx hb dL_law_214 (by decide) ?_
                    refine lv_iadd hx hb dL_law_215 ?_
                    refine va_sld hx hb hX hbl hbA hS (hin 1 (by decide)) dL_law_216 ?_
                    rw [ha1]
                    refine lv_aload_n hx hb dL_law_217 rfl (lv_at hl 3 rfl) ?_
                    refine lv_iload_n hx hb dL_law_218 rfl (lv_at hl 0 rfl) ?_
                    refine lv_iconst (v := 2) hx hb dL_law_219 (by decide) ?_
                    refine lv_iadd hx hb dL_law_220 ?_
                    refine va_sld hx hb hX hbl hbA hS (hin 2 (by decide)) dL_law_221 ?_
                    rw [ha2]
                    refine lv_aload_n hx hb dL_law_222 rfl (lv_at hl 3 rfl) ?_
                    refine lv_iload_n hx hb dL_law_223 rfl (lv_at hl 0 rfl) ?_
                    refine lv_iconst (v := 3) hx hb dL_law_224 (by decide) ?_
                    refine lv_iadd hx hb dL_law_225 ?_
                    refine va_sld hx hb hX hbl hbA hS (hin 3 (by decide)) dL_law_226 ?_
                    rw [ha3]
                    refine dk_Vi (As := [.int a1, .int a2, .int a3]) (rest := [.int v1]) ⟨hx, hb, hml, hown, hts⟩ (c_X6_row_2 l g z I1 a1 a2 a3 (dkN_sub h17 rfl) (dkN_sub h19 rfl) (dkN_sub h21 rfl)) (cwV 3 hts gL_law_X6_row rfl rfl rfl (by decide +kernel) ⟨Nat.le_of_ble_eq_true rfl, Nat.le_of_ble_eq_true rfl⟩) (dk_at340 hW) rfl hK hW hS rfl hl.1 rfl (Nat.le_of_ble_eq_true rfl) dL_law_227 ⟨Nat.le_of_ble_eq_true rfl, Nat.le_of_ble_eq_true rfl⟩ (fun v2 I2 H L hp2 hW hS => ?_)
                    obtain ⟨dv2, hF2, -⟩ := hp2
                    refine lv_icmp_eq (tgt := 1302) hx hb dL_law_230 (by decide) (fun c9 => ?_) (fun c9 => ?_)
                    · exact hend _ _ ls hS hl
                    · exact absurd (Int32.toInt_inj.mp ((dkN_one dv1).trans (dkN_one dv2).symm)) c9
              ·
                refine lv_aload_n hx hb dL_law_192 rfl (lv_at hl 2 rfl) ?_
                refine lv_aload_n hx hb dL_law_193 rfl (lv_at hl 3 rfl) ?_
                refine lv_iload_n hx hb dL_law_194 rfl (lv_at hl 0 rfl) ?_
                refine lv_iconst (v := 1) hx hb dL_law_195 (by decide) ?_
                refine lv_iadd hx hb dL_law_196 ?_
                refine va_sld hx hb hX hbl hbA hS (hin 1 (by decide)) dL_law_197 ?_
                rw [ha1]
                refine lv_aload_n hx hb dL_law_198 rfl (lv_at hl 3 rfl) ?_
                refine lv_iload_n hx hb dL_law_199 rfl (lv_at hl 0 rfl) ?_
                refine lv_iconst (v := 2) hx hb dL_law_200 (by decide) ?_
                refine lv_iadd hx hb dL_law_201 ?_
                refine va_sld hx hb hX hbl hbA hS (hin 2 (by decide)) dL_law_202 ?_
                rw [ha2]
                refine lv_aload_n hx hb dL_law_203 rfl (lv_at hl 3 rfl) ?_
                refine lv_iload_n hx hb dL_law_204 rfl (lv_at hl 0 rfl) ?_
                refine lv_iconst (v := 3) hx hb dL_law_205 (by decide) ?_
                refine lv_iadd hx hb dL_law_206 ?_
                refine va_sld hx hb hX hbl hbA hS (hin 3 (by decide)) dL_law_207 ?_
                rw [ha3]
                refine dk_Vi (As := [.int a1, .int a2, .int a3]) (rest := []) ⟨hx, hb, hml, hown, hts⟩ (c_X5_row_1 l g z dkI0 a1 a2 a3 (dkN_sub h17 rfl) (dkN_sub h19 rfl)) (cwV 3 hts gL_law_X5_row rfl rfl rfl (by decide +kernel) ⟨Nat.le_of_ble_eq_true rfl, Nat.le_of_ble_eq_true rfl⟩) (dk_at0 hW) rfl hK hW hS rfl hl.1 rfl (Nat.le_of_ble_eq_true rfl) dL_law_208 ⟨Nat.le_of_ble_eq_true rfl, Nat.le_of_ble_eq_true rfl⟩ (fun v1 I1 H L hp1 hW hS => ?_)
                obtain ⟨dv1, hF1, -⟩ := hp1
                refine lv_aload_n hx hb dL_law_211 rfl (lv_at hl 1 rfl) ?_
                refine lv_aload_n hx hb dL_law_212 rfl (lv_at hl 3 rfl) ?_
                refine lv_iload_n hx hb dL_law_213 rfl (lv_at hl 0 rfl) ?_
                refine lv_iconst (v := 1) hx hb dL_law_214 (by decide) ?_
                refine lv_iadd hx hb dL_law_215 ?_
                refine va_sld hx hb hX hbl hbA hS (hin 1 (by decide)) dL_law_216 ?_
                rw [ha1]
                refine lv_aload_n hx hb dL_law_217 rfl (lv_at hl 3 rfl) ?_
                refine lv_iload_n hx hb dL_law_218 rfl (lv_at hl 0 rfl) ?_
                refine lv_iconst (v := 2) hx hb dL_law_219 (by decide) ?_
                refine lv_iadd hx hb dL_law_220 ?_
                refine va_sld hx hb hX hbl hbA hS (hin 2 (by decide)) dL_law_221 ?_
                rw [ha2]
                refine lv_aload_n hx hb dL_law_222 rfl (lv_at hl 3 rfl) ?_
                refine lv_iload_n hx hb dL_law_223 rfl (lv_at hl 0 rfl) ?_
                refine lv_iconst (v := 3) hx hb dL_law_224 (by decide) ?_
                refine lv_iadd hx hb dL_law_225 ?_
                refine va_sld hx hb hX hbl hbA hS (hin 3 (by decide)) dL_law_226 ?_
                rw [ha3]
                refine dk_Vi (As := [.int a1, .int a2, .int a3]) (rest := [.int v1]) ⟨hx, hb, hml, hown, hts⟩ (c_X6_row_1 l g z I1 a1 a2 a3 (dkN_sub h17 rfl) (dkN_sub h19 rfl)) (cwV 3 hts gL_law_X6_row rfl rfl rfl (by decide +kernel) ⟨Nat.le_of_ble_eq_true rfl, Nat.le_of_ble_eq_true rfl⟩) (dk_at340 hW) rfl hK hW hS rfl hl.1 rfl (Nat.le_of_ble_eq_true rfl) dL_law_227 ⟨Nat.le_of_ble_eq_true rfl, Nat.le_of_ble_eq_true rfl⟩ (fun v2 I2 H L hp2 hW hS => ?_)
                obtain ⟨dv2, hF2, -⟩ := hp2
                refine lv_icmp_eq (tgt := 1302) hx hb dL_law_230 (by decide) (fun c9 => ?_) (fun c9 => ?_)
                · exact hend _ _ ls hS hl
                · exact absurd (Int32.toInt_inj.mp ((dkN_one dv1).trans (dkN_one dv2).symm)) c9
          ·
            rcases dkN_cut (4) (5) rfl h17 with h22 | h22
            ·
              rcases dkN_cut (-1) (0) rfl (dkN_top a2) with h23 | h23
              ·
                refine lv_aload_n hx hb dL_law_192 rfl (lv_at hl 2 rfl) ?_
                refine lv_aload_n hx hb dL_law_193 rfl (lv_at hl 3 rfl) ?_
                refine lv_iload_n hx hb dL_law_194 rfl (lv_at hl 0 rfl) ?_
                refine lv_iconst (v := 1) hx hb dL_law_195 (by decide) ?_
                refine lv_iadd hx hb dL_law_196 ?_
                refine va_sld hx hb hX hbl hbA hS (hin 1 (by decide)) dL_law_197 ?_
                rw [ha1]
                refine lv_aload_n hx hb dL_law_198 rfl (lv_at hl 3 rfl) ?_
                refine lv_iload_n hx hb dL_law_199 rfl (lv_at hl 0 rfl) ?_
                refine lv_iconst (v := 2) hx hb dL_law_200 (by decide) ?_
                refine lv_iadd hx hb dL_law_201 ?_
                refine va_sld hx hb hX hbl hbA hS (hin 2 (by decide)) dL_law_202 ?_
                rw [ha2]
                refine lv_aload_n hx hb dL_law_203 rfl (lv_at hl 3 rfl) ?_
                refine lv_iload_n hx hb dL_law_204 rfl (lv_at hl 0 rfl) ?_
                refine lv_iconst (v := 3) hx hb dL_law_205 (by decide) ?_
                refine lv_iadd hx hb dL_law_206 ?_
                refine va_sld hx hb hX hbl hbA hS (hin 3 (by decide)) dL_law_207 ?_
                rw [ha3]
                refine dk_Vi (As := [.int a1, .int a2, .int a3]) (rest := []) ⟨hx, hb, hml, hown, hts⟩ (c_X5_row_1 l g z dkI0 a1 a2 a3 (dkN_sub h22 rfl) (dkN_sub h23 rfl)) (cwV 3 hts gL_law_X5_row rfl rfl rfl (by decide +kernel) ⟨Nat.le_of_ble_eq_true rfl, Nat.le_of_ble_eq_true rfl⟩) (dk_at0 hW) rfl hK hW hS rfl hl.1 rfl (Nat.le_of_ble_eq_true rfl) dL_law_208 ⟨Nat.le_of_ble_eq_true rfl, Nat.le_of_ble_eq_true rfl⟩ (fun v1 I1 H L hp1 hW hS => ?_)
                obtain ⟨dv1, hF1, -⟩ := hp1
                refine lv_aload_n hx hb dL_law_211 rfl (lv_at hl 1 rfl) ?_
                refine lv_aload_n hx hb dL_law_212 rfl (lv_at hl 3 rfl) ?_
                refine lv_iload_n hx hb dL_law_213 rfl (lv_at hl 0 rfl) ?_
                refine lv_iconst (v := 1) hx hb dL_law_214 (by decide) ?_
                refine lv_iadd hx hb dL_law_215 ?_
                refine va_sld hx hb hX hbl hbA hS (hin 1 (by decide)) dL_law_216 ?_
                rw [ha1]
                refine lv_aload_n hx hb dL_law_217 rfl (lv_at hl 3 rfl) ?_
                refine lv_iload_n hx hb dL_law_218 rfl (lv_at hl 0 rfl) ?_
                refine lv_iconst (v := 2) hx hb dL_law_219 (by decide) ?_
                refine lv_iadd hx hb dL_law_220 ?_
                refine va_sld hx hb hX hbl hbA hS (hin 2 (by decide)) dL_law_221 ?_
                rw [ha2]
                refine lv_aload_n hx hb dL_law_222 rfl (lv_at hl 3 rfl) ?_
                refine lv_iload_n hx hb dL_law_223 rfl (lv_at hl 0 rfl) ?_
                refine lv_iconst (v := 3) hx hb dL_law_224 (by decide) ?_
                refine lv_iadd hx hb dL_law_225 ?_
                refine va_sld hx hb hX hbl hbA hS (hin 3 (by decide)) dL_law_226 ?_
                rw [ha3]
                refine dk_Vi (As := [.int a1, .int a2, .int a3]) (rest := [.int v1]) ⟨hx, hb, hml, hown, hts⟩ (c_X6_row_1 l g z I1 a1 a2 a3 (dkN_sub h22 rfl) (dkN_sub h23 rfl)) (cwV 3 hts gL_law_X6_row rfl rfl rfl (by decide +kernel) ⟨Nat.le_of_ble_eq_true rfl, Nat.le_of_ble_eq_true rfl⟩) (dk_at340 hW) rfl hK hW hS rfl hl.1 rfl (Nat.le_of_ble_eq_true rfl) dL_law_227 ⟨Nat.le_of_ble_eq_true rfl, Nat.le_of_ble_eq_true rfl⟩ (fun v2 I2 H L hp2 hW hS => ?_)
                obtain ⟨dv2, hF2, -⟩ := hp2
                refine lv_icmp_eq (tgt := 1302) hx hb dL_law_230 (by decide) (fun c9 => ?_) (fun c9 => ?_)
                · exact hend _ _ ls hS hl
                · exact absurd (Int32.toInt_inj.mp ((dkN_one dv1).trans (dkN_one dv2).symm)) c9
              ·
                rcases dkN_cut (2) (3) rfl h23 with h24 | h24
                ·
                  rcases dkN_cut (-1) (0) rfl (dkN_top a3) with h25 | h25
                  ·
                    refine lv_aload_n hx hb dL_law_192 rfl (lv_at hl 2 rfl) ?_
                    refine lv_aload_n hx hb dL_law_193 rfl (lv_at hl 3 rfl) ?_
                    refine lv_iload_n hx hb dL_law_194 rfl (lv_at hl 0 rfl) ?_
                    refine lv_iconst (v := 1) hx hb dL_law_195 (by decide) ?_
                    refine lv_iadd hx hb dL_law_196 ?_
                    refine va_sld hx hb hX hbl hbA hS (hin 1 (by decide)) dL_law_197 ?_
                    rw [ha1]
                    refine lv_aload_n hx hb dL_law_198 rfl (lv_at hl 3 rfl) ?_
                    refine lv_iload_n hx hb dL_law_199 rfl (lv_at hl 0 rfl) ?_
                    refine lv_iconst (v := 2) hx hb dL_law_200 (by decide) ?_
                    refine lv_iadd hx hb dL_law_201 ?_
                    refine va_sld hx hb hX hbl hbA hS (hin 2 (by decide)) dL_law_202 ?_
                    rw [ha2]
                    refine lv_aload_n hx hb dL_law_203 rfl (lv_at hl 3 rfl) ?_
                    refine lv_iload_n hx hb dL_law_204 rfl (lv_at hl 0 rfl) ?_
                    refine lv_iconst (v := 3) hx hb dL_law_205 (by decide) ?_
                    refine lv_iadd hx hb dL_law_206 ?_
                    refine va_sld hx hb hX hbl hbA hS (hin 3 (by decide)) dL_law_207 ?_
                    rw [ha3]
                    refine dk_Vi (As := [.int a1, .int a2, .int a3]) (rest := []) ⟨hx, hb, hml, hown, hts⟩ (c_X5_row_3 l g z dkI0 a1 a2 a3 (dkN_sub h22 rfl) (dkN_sub h24 rfl) (dkN_sub h25 rfl)) (cwV 3 hts gL_law_X5_row rfl rfl rfl (by decide +kernel) ⟨Nat.le_of_ble_eq_true rfl, Nat.le_of_ble_eq_true rfl⟩) (dk_at0 hW) rfl hK hW hS rfl hl.1 rfl (Nat.le_of_ble_eq_true rfl) dL_law_208 ⟨Nat.le_of_ble_eq_true rfl, Nat.le_of_ble_eq_true rfl⟩ (fun v1 I1 H L hp1 hW hS => ?_)
                    obtain ⟨dv1, hF1, _, -⟩ := hp1
                    refine lv_aload_n hx hb dL_law_211 rfl (lv_at hl 1 rfl) ?_
                    refine lv_aload_n hx hb dL_law_212 rfl (lv_at hl 3 rfl) ?_
                    refine lv_iload_n hx hb dL_law_213 rfl (lv_at hl 0 rfl) ?_
                    refine lv_iconst (v := 1) hx hb dL_law_214 (by decide) ?_
                    refine lv_iadd hx hb dL_law_215 ?_
                    refine va_sld hx hb hX hbl hbA hS (hin 1 (by decide)) dL_law_216 ?_
                    rw [ha1]
                    refine lv_aload_n hx hb dL_law_217 rfl (lv_at hl 3 rfl) ?_
                    refine lv_iload_n hx hb dL_law_218 rfl (lv_at hl 0 rfl) ?_
                    refine lv_iconst (v := 2) hx hb dL_law_219 (by decide) ?_
                    refine lv_iadd hx hb dL_law_220 ?_
                    refine va_sld hx hb hX hbl hbA hS (hin 2 (by decide)) dL_law_221 ?_
                    rw [ha2]
                    refine lv_aload_n hx hb dL_law_222 rfl (lv_at hl 3 rfl) ?_
                    refine lv_iload_n hx hb dL_law_223 rfl (lv_at hl 0 rfl) ?_
                    refine lv_iconst (v := 3) hx hb dL_law_224 (by decide) ?_
                    refine lv_iadd hx hb dL_law_225 ?_
                    refine va_sld hx hb hX hbl hbA hS (hin 3 (by decide)) dL_law_226 ?_
                    rw [ha3]
                    refine dk_Vi (As := [.int a1, .int a2, .int a3]) (rest := [.int v1]) ⟨hx, hb, hml, hown, hts⟩ (c_X6_row_3 l g z I1 a1 a2 a3 (dkN_sub h22 rfl) (dkN_sub h24 rfl) (dkN_sub h25 rfl)) (cwV 3 hts gL_law_X6_row rfl rfl rfl (by decide +kernel) ⟨Nat.le_of_ble_eq_true rfl, Nat.le_of_ble_eq_true rfl⟩) (dk_at340 hW) rfl hK hW hS rfl hl.1 rfl (Nat.le_of_ble_eq_true rfl) dL_law_227 ⟨Nat.le_of_ble_eq_true rfl, Nat.le_of_ble_eq_true rfl⟩ (fun v2 I2 H L hp2 hW hS => ?_)
                    obtain ⟨dv2, hF2, _, -⟩ := hp2
                    refine lv_icmp_eq (tgt := 1302) hx hb dL_law_230 (by decide) (fun c9 => ?_) (fun c9 => ?_)
                    · exact hend _ _ ls hS hl
                    · exact absurd (Int32.toInt_inj.mp ((dkN_one dv1).trans (dkN_one dv2).symm)) c9
                  ·
                    rcases dkN_cut (40) (41) rfl h25 with h26 | h26
                    ·
                      refine lv_aload_n hx hb dL_law_192 rfl (lv_at hl 2 rfl) ?_
                      refine lv_aload_n hx hb dL_law_193 rfl (lv_at hl 3 rfl) ?_
                      refine lv_iload_n hx hb dL_law_194 rfl (lv_at hl 0 rfl) ?_
                      refine lv_iconst (v := 1) hx hb dL_law_195 (by decide) ?_
                      refine lv_iadd hx hb dL_law_196 ?_
                      refine va_sld hx hb hX hbl hbA hS (hin 1 (by decide)) dL_law_197 ?_
                      rw [ha1]
                      refine lv_aload_n hx hb dL_law_198 rfl (lv_at hl 3 rfl) ?_
                      refine lv_iload_n hx hb dL_law_199 rfl (lv_at hl 0 rfl) ?_
                      refine lv_iconst (v := 2) hx hb dL_law_200 (by decide) ?_
                      refine lv_iadd hx hb dL_law_201 ?_
                      refine va_sld hx hb hX hbl hbA hS (hin 2 (by decide)) dL_law_202 ?_
                      rw [ha2]
                      refine lv_aload_n hx hb dL_law_203 rfl (lv_at hl 3 rfl) ?_
                      refine lv_iload_n hx hb dL_law_204 rfl (lv_at hl 0 rfl) ?_
                      refine lv_iconst (v := 3) hx hb dL_law_205 (by decide) ?_
                      refine lv_iadd hx hb dL_law_206 ?_
                      refine va_sld hx hb hX hbl hbA hS (hin 3 (by decide)) dL_law_207 ?_
                      rw [ha3]
                      refine dk_Vi (As := [.int a1, .int a2, .int a3]) (rest := []) ⟨hx, hb, hml, hown, hts⟩ (c_X5_row_8 l g z dkI0 a1 a2 a3 (dkN_sub h22 rfl) (dkN_sub h24 rfl) (dkN_sub h26 rfl) (dkN_lit (0) rfl)) (cwV 3 hts gL_law_X5_row rfl rfl rfl (by decide +kernel) ⟨Nat.le_of_ble_eq_true rfl, Nat.le_of_ble_eq_true rfl⟩) (dk_at0 hW) rfl hK hW hS rfl hl.1 rfl (Nat.le_of_ble_eq_true rfl) dL_law_208 ⟨Nat.le_of_ble_eq_true rfl, Nat.le_of_ble_eq_true rfl⟩ (fun v1 I1 H L hp1 hW hS => ?_)
                      obtain ⟨dv1, hF1, _, ev1, -⟩ := hp1
                      refine lv_aload_n hx hb dL_law_211 rfl (lv_at hl 1 rfl) ?_
                      refine lv_aload_n hx hb dL_law_212 rfl (lv_at hl 3 rfl) ?_
                      refine lv_iload_n hx hb dL_law_213 rfl (lv_at hl 0 rfl) ?_
                      refine lv_iconst (v := 1) hx hb dL_law_214 (by decide) ?_
                      refine lv_iadd hx hb dL_law_215 ?_
                      refine va_sld hx hb hX hbl hbA hS (hin 1 (by decide)) dL_law_216 ?_
                      rw [ha1]
                      refine lv_aload_n hx hb dL_law_217 rfl (lv_at hl 3 rfl) ?_
                      refine lv_iload_n hx hb dL_law_218 rfl (lv_at hl 0 rfl) ?_
                      refine lv_iconst (v := 2) hx hb dL_law_219 (by decide) ?_
                      refine lv_iadd hx hb dL_law_220 ?_
                      refine va_sld hx hb hX hbl hbA hS (hin 2 (by decide)) dL_law_221 ?_
                      rw [ha2]
                      refine lv_aload_n hx hb dL_law_222 rfl (lv_at hl 3 rfl) ?_
                      refine lv_iload_n hx hb dL_law_223 rfl (lv_at hl 0 rfl) ?_
                      refine lv_iconst (v := 3) hx hb dL_law_224 (by decide) ?_
                      refine lv_iadd hx hb dL_law_225 ?_
                      refine va_sld hx hb hX hbl hbA hS (hin 3 (by decide)) dL_law_226 ?_
                      rw [ha3]
                      refine dk_Vi (As := [.int a1, .int a2, .int a3]) (rest := [.int v1]) ⟨hx, hb, hml, hown, hts⟩ (c_X6_row_8 l g z I1 a1 a2 a3 (dkN_sub h22 rfl) (dkN_sub h24 rfl) (dkN_sub h26 rfl) (by rw [hF1 340 4 rfl]; exact dkN_lit (0) rfl)) (cwV 3 hts gL_law_X6_row rfl rfl rfl (by decide +kernel) ⟨Nat.le_of_ble_eq_true rfl, Nat.le_of_ble_eq_true rfl⟩) (dk_at340 hW) rfl hK hW hS rfl hl.1 rfl (Nat.le_of_ble_eq_true rfl) dL_law_227 ⟨Nat.le_of_ble_eq_true rfl, Nat.le_of_ble_eq_true rfl⟩ (fun v2 I2 H L hp2 hW hS => ?_)
                      obtain ⟨dv2, hF2, _, ev2, -⟩ := hp2
                      refine lv_icmp_eq (tgt := 1302) hx hb dL_law_230 (by decide) (fun c9 => ?_) (fun c9 => ?_)
                      · exact hend _ _ ls hS hl
                      · exact absurd (ev1.trans ev2.symm) c9
                    ·
                      refine lv_aload_n hx hb dL_law_192 rfl (lv_at hl 2 rfl) ?_
                      refine lv_aload_n hx hb dL_law_193 rfl (lv_at hl 3 rfl) ?_
                      refine lv_iload_n hx hb dL_law_194 rfl (lv_at hl 0 rfl) ?_
                      refine lv_iconst (v := 1) hx hb dL_law_195 (by decide) ?_
                      refine lv_iadd hx hb dL_law_196 ?_
                      refine va_sld hx hb hX hbl hbA hS (hin 1 (by decide)) dL_law_197 ?_
                      rw [ha1]
                      refine lv_aload_n hx hb dL_law_198 rfl (lv_at hl 3 rfl) ?_
                      refine lv_iload_n hx hb dL_law_199 rfl (lv_at hl 0 rfl) ?_
                      refine lv_iconst (v := 2) hx hb dL_law_200 (by decide) ?_
                      refine lv_iadd hx hb dL_law_201 ?_
                      refine va_sld hx hb hX hbl hbA hS (hin 2 (by decide)) dL_law_202 ?_
                      rw [ha2]
                      refine lv_aload_n hx hb dL_law_203 rfl (lv_at hl 3 rfl) ?_
                      refine lv_iload_n hx hb dL_law_204 rfl (lv_at hl 0 rfl) ?_
                      refine lv_iconst (v := 3) hx hb dL_law_205 (by decide) ?_
                      refine lv_iadd hx hb dL_law_206 ?_
                      refine va_sld hx hb hX hbl hbA hS (hin 3 (by decide)) dL_law_207 ?_
                      rw [ha3]
                      refine dk_Vi (As := [.int a1, .int a2, .int a3]) (rest := []) ⟨hx, hb, hml, hown, hts⟩ (c_X5_row_2 l g z dkI0 a1 a2 a3 (dkN_sub h22 rfl) (dkN_sub h24 rfl) (dkN_sub h26 rfl)) (cwV 3 hts gL_law_X5_row rfl rfl rfl (by decide +kernel) ⟨Nat.le_of_ble_eq_true rfl, Nat.le_of_ble_eq_true rfl⟩) (dk_at0 hW) rfl hK hW hS rfl hl.1 rfl (Nat.le_of_ble_eq_true rfl) dL_law_208 ⟨Nat.le_of_ble_eq_true rfl, Nat.le_of_ble_eq_true rfl⟩ (fun v1 I1 H L hp1 hW hS => ?_)
                      obtain ⟨dv1, hF1, -⟩ := hp1
                      refine lv_aload_n hx hb dL_law_211 rfl (lv_at hl 1 rfl) ?_
                      refine lv_aload_n hx hb dL_law_212 rfl (lv_at hl 3 rfl) ?_
                      refine lv_iload_n hx hb dL_law_213 rfl (lv_at hl 0 rfl) ?_
                      refine lv_iconst (v := 1) hx hb dL_law_214 (by decide) ?_
                      refine lv_iadd hx hb dL_law_215 ?_
                      refine va_sld hx hb hX hbl hbA hS (hin 1 (by decide)) dL_law_216 ?_
                      rw [ha1]
                      refine lv_aload_n hx hb dL_law_217 rfl (lv_at hl 3 rfl) ?_
                      refine lv_iload_n hx hb dL_law_218 rfl (lv_at hl 0 rfl) ?_
                      refine lv_iconst (v := 2) hx hb dL_law_219 (by decide) ?_
                      refine lv_iadd hx hb dL_law_220 ?_
                      refine va_sld hx hb hX hbl hbA hS (hin 2 (by decide)) dL_law_221 ?_
                      rw [ha2]
                      refine lv_aload_n hx hb dL_law_222 rfl (lv_at hl 3 rfl) ?_
                      refine lv_iload_n hx hb dL_law_223 rfl (lv_at hl 0 rfl) ?_
                      refine lv_iconst (v := 3) hx hb dL_law_224 (by decide) ?_
                      refine lv_iadd hx hb dL_law_225 ?_
                      refine va_sld hx hb hX hbl hbA hS (hin 3 (by decide)) dL_law_226 ?_
                      rw [ha3]
                      refine dk_Vi (As := [.int a1, .int a2, .int a3]) (rest := [.int v1]) ⟨hx, hb, hml, hown, hts⟩ (c_X6_row_2 l g z I1 a1 a2 a3 (dkN_sub h22 rfl) (dkN_sub h24 rfl) (dkN_sub h26 rfl)) (cwV 3 hts gL_law_X6_row rfl rfl rfl (by decide +kernel) ⟨Nat.le_of_ble_eq_true rfl, Nat.le_of_ble_eq_true rfl⟩) (dk_at340 hW) rfl hK hW hS rfl hl.1 rfl (Nat.le_of_ble_eq_true rfl) dL_law_227 ⟨Nat.le_of_ble_eq_true rfl, Nat.le_of_ble_eq_true rfl⟩ (fun v2 I2 H L hp2 hW hS => ?_)
                      obtain ⟨dv2, hF2, -⟩ := hp2
                      refine lv_icmp_eq (tgt := 1302) hx hb dL_law_230 (by decide) (fun c9 => ?_) (fun c9 => ?_)
                      · exact hend _ _ ls hS hl
                      · exact absurd (Int32.toInt_inj.mp ((dkN_one dv1).trans (dkN_one dv2).symm)) c9
                ·
                  refine lv_aload_n hx hb dL_law_192 rfl (lv_at hl 2 rfl) ?_
                  refine lv_aload_n hx hb dL_law_193 rfl (lv_at hl 3 rfl) ?_
                  refine lv_iload_n hx hb dL_law_194 rfl (lv_at hl 0 rfl) ?_
                  refine lv_iconst (v := 1) hx hb dL_law_195 (by decide) ?_
                  refine lv_iadd hx hb dL_law_196 ?_
                  refine va_sld hx hb hX hbl hbA hS (hin 1 (by decide)) dL_law_197 ?_
                  rw [ha1]
                  refine lv_aload_n hx hb dL_law_198 rfl (lv_at hl 3 rfl) ?_
                  refine lv_iload_n hx hb dL_law_199 rfl (lv_at hl 0 rfl) ?_
                  refine lv_iconst (v := 2) hx hb dL_law_200 (by decide) ?_
                  refine lv_iadd hx hb dL_law_201 ?_
                  refine va_sld hx hb hX hbl hbA hS (hin 2 (by decide)) dL_law_202 ?_
                  rw [ha2]
                  refine lv_aload_n hx hb dL_law_203 rfl (lv_at hl 3 rfl) ?_
                  refine lv_iload_n hx hb dL_law_204 rfl (lv_at hl 0 rfl) ?_
                  refine lv_iconst (v := 3) hx hb dL_law_205 (by decide) ?_
                  refine lv_iadd hx hb dL_law_206 ?_
                  refine va_sld hx hb hX hbl hbA hS (hin 3 (by decide)) dL_law_207 ?_
                  rw [ha3]
                  refine dk_Vi (As := [.int a1, .int a2, .int a3]) (rest := []) ⟨hx, hb, hml, hown, hts⟩ (c_X5_row_1 l g z dkI0 a1 a2 a3 (dkN_sub h22 rfl) (dkN_sub h24 rfl)) (cwV 3 hts gL_law_X5_row rfl rfl rfl (by decide +kernel) ⟨Nat.le_of_ble_eq_true rfl, Nat.le_of_ble_eq_true rfl⟩) (dk_at0 hW) rfl hK hW hS rfl hl.1 rfl (Nat.le_of_ble_eq_true rfl) dL_law_208 ⟨Nat.le_of_ble_eq_true rfl, Nat.le_of_ble_eq_true rfl⟩ (fun v1 I1 H L hp1 hW hS => ?_)
                  obtain ⟨dv1, hF1, -⟩ := hp1
                  refine lv_aload_n hx hb dL_law_211 rfl (lv_at hl 1 rfl) ?_
                  refine lv_aload_n hx hb dL_law_212 rfl (lv_at hl 3 rfl) ?_
                  refine lv_iload_n hx hb dL_law_213 rfl (lv_at hl 0 rfl) ?_
                  refine lv_iconst (v := 1) hx hb dL_law_214 (by decide) ?_
                  refine lv_iadd hx hb dL_law_215 ?_
                  refine va_sld hx hb hX hbl hbA hS (hin 1 (by decide)) dL_law_216 ?_
                  rw [ha1]
                  refine lv_aload_n hx hb dL_law_217 rfl (lv_at hl 3 rfl) ?_
                  refine lv_iload_n hx hb dL_law_218 rfl (lv_at hl 0 rfl) ?_
                  refine lv_iconst (v := 2) hx hb dL_law_219 (by decide) ?_
                  refine lv_iadd hx hb dL_law_220 ?_
                  refine va_sld hx hb hX hbl hbA hS (hin 2 (by decide)) dL_law_221 ?_
                  rw [ha2]
                  refine lv_aload_n hx hb dL_law_222 rfl (lv_at hl 3 rfl) ?_
                  refine lv_iload_n hx hb dL_law_223 rfl (lv_at hl 0 rfl) ?_
                  refine lv_iconst (v := 3) hx hb dL_law_224 (by decide) ?_
                  refine lv_iadd hx hb dL_law_225 ?_
                  refine va_sld hx hb hX hbl hbA hS (hin 3 (by decide)) dL_law_226 ?_
                  rw [ha3]
                  refine dk_Vi (As := [.int a1, .int a2, .int a3]) (rest := [.int v1]) ⟨hx, hb, hml, hown, hts⟩ (c_X6_row_1 l g z I1 a1 a2 a3 (dkN_sub h22 rfl) (dkN_sub h24 rfl)) (cwV 3 hts gL_law_X6_row rfl rfl rfl (by decide +kernel) ⟨Nat.le_of_ble_eq_true rfl, Nat.le_of_ble_eq_true rfl⟩) (dk_at340 hW) rfl hK hW hS rfl hl.1 rfl (Nat.le_of_ble_eq_true rfl) dL_law_227 ⟨Nat.le_of_ble_eq_true rfl, Nat.le_of_ble_eq_true rfl⟩ (fun v2 I2 H L hp2 hW hS => ?_)
                  obtain ⟨dv2, hF2, -⟩ := hp2
                  refine lv_icmp_eq (tgt := 1302) hx hb dL_law_230 (by decide) (fun c9 => ?_) (fun c9 => ?_)
                  · exact hend _ _ ls hS hl
                  · exact absurd (Int32.toInt_inj.mp ((dkN_one dv1).trans (dkN_one dv2).symm)) c9
            ·
              rcases dkN_cut (5) (6) rfl h22 with h27 | h27
              ·
                rcases dkN_cut (-1) (0) rfl (dkN_top a2) with h28 | h28
                ·
                  refine lv_aload_n hx hb dL_law_192 rfl (lv_at hl 2 rfl) ?_
                  refine lv_aload_n hx hb dL_law_193 rfl (lv_at hl 3 rfl) ?_
                  refine lv_iload_n hx hb dL_law_194 rfl (lv_at hl 0 rfl) ?_
                  refine lv_iconst (v := 1) hx hb dL_law_195 (by decide) ?_
                  refine lv_iadd hx hb dL_law_196 ?_
                  refine va_sld hx hb hX hbl hbA hS (hin 1 (by decide)) dL_law_197 ?_
                  rw [ha1]
                  refine lv_aload_n hx hb dL_law_198 rfl (lv_at hl 3 rfl) ?_
                  refine lv_iload_n hx hb dL_law_199 rfl (lv_at hl 0 rfl) ?_
                  refine lv_iconst (v := 2) hx hb dL_law_200 (by decide) ?_
                  refine lv_iadd hx hb dL_law_201 ?_
                  refine va_sld hx hb hX hbl hbA hS (hin 2 (by decide)) dL_law_202 ?_
                  rw [ha2]
                  refine lv_aload_n hx hb dL_law_203 rfl (lv_at hl 3 rfl) ?_
                  refine lv_iload_n hx hb dL_law_204 rfl (lv_at hl 0 rfl) ?_
                  refine lv_iconst (v := 3) hx hb dL_law_205 (by decide) ?_
                  refine lv_iadd hx hb dL_law_206 ?_
                  refine va_sld hx hb hX hbl hbA hS (hin 3 (by decide)) dL_law_207 ?_
                  rw [ha3]
                  refine dk_Vi (As := [.int a1, .int a2, .int a3]) (rest := []) ⟨hx, hb, hml, hown, hts⟩ (c_X5_row_1 l g z dkI0 a1 a2 a3 (dkN_sub h27 rfl) (dkN_sub h28 rfl)) (cwV 3 hts gL_law_X5_row rfl rfl rfl (by decide +kernel) ⟨Nat.le_of_ble_eq_true rfl, Nat.le_of_ble_eq_true rfl⟩) (dk_at0 hW) rfl hK hW hS rfl hl.1 rfl (Nat.le_of_ble_eq_true rfl) dL_law_208 ⟨Nat.le_of_ble_eq_true rfl, Nat.le_of_ble_eq_true rfl⟩ (fun v1 I1 H L hp1 hW hS => ?_)
                  obtain ⟨dv1, hF1, -⟩ := hp1
                  refine lv_aload_n hx hb dL_law_211 rfl (lv_at hl 1 rfl) ?_
                  refine lv_aload_n hx hb dL_law_212 rfl (lv_at hl 3 rfl) ?_
                  refine lv_iload_n hx hb dL_law_213 rfl (lv_at hl 0 rfl) ?_
                  refine lv_iconst (v := 1) hx hb dL_law_214 (by decide) ?_
                  refine lv_iadd hx hb dL_law_215 ?_
                  refine va_sld hx hb hX hbl hbA hS (hin 1 (by decide)) dL_law_216 ?_
                  rw [ha1]
                  refine lv_aload_n hx hb dL_law_217 rfl (lv_at hl 3 rfl) ?_
                  refine lv_iload_n hx hb dL_law_218 rfl (lv_at hl 0 rfl) ?_
                  refine lv_iconst (v := 2) hx hb dL_law_219 (by decide) ?_
                  refine lv_iadd hx hb dL_law_220 ?_
                  refine va_sld hx hb hX hbl hbA hS (hin 2 (by decide)) dL_law_221 ?_
                  rw [ha2]
                  refine lv_aload_n hx hb dL_law_222 rfl (lv_at hl 3 rfl) ?_
                  refine lv_iload_n hx hb dL_law_223 rfl (lv_at hl 0 rfl) ?_
                  refine lv_iconst (v := 3) hx hb dL_law_224 (by decide) ?_
                  refine lv_iadd hx hb dL_law_225 ?_
                  refine va_sld hx hb hX hbl hbA hS (hin 3 (by decide)) dL_law_226 ?_
                  rw [ha3]
                  refine dk_Vi (As := [.int a1, .int a2, .int a3]) (rest := [.int v1]) ⟨hx, hb, hml, hown, hts⟩ (c_X6_row_1 l g z I1 a1 a2 a3 (dkN_sub h27 rfl) (dkN_sub h28 rfl)) (cwV 3 hts gL_law_X6_row rfl rfl rfl (by decide +kernel) ⟨Nat.le_of_ble_eq_true rfl, Nat.le_of_ble_eq_true rfl⟩) (dk_at340 hW) rfl hK hW hS rfl hl.1 rfl (Nat.le_of_ble_eq_true rfl) dL_law_227 ⟨Nat.le_of_ble_eq_true rfl, Nat.le_of_ble_eq_true rfl⟩ (fun v2 I2 H L hp2 hW hS => ?_)
                  obtain ⟨dv2, hF2, -⟩ := hp2
                  refine lv_icmp_eq (tgt := 1302) hx hb dL_law_230 (by decide) (fun c9 => ?_) (fun c9 => ?_)
                  · exact hend _ _ ls hS hl
                  · exact absurd (Int32.toInt_inj.mp ((dkN_one dv1).trans (dkN_one dv2).symm)) c9
                ·
                  rcases dkN_cut (2) (3) rfl h28 with h29 | h29
                  ·
                    rcases dkN_cut (-1) (0) rfl (dkN_top a3) with h30 | h30
                    ·
                      refine lv_aload_n hx hb dL_law_192 rfl (lv_at hl 2 rfl) ?_
                      refine lv_aload_n hx hb dL_law_193 rfl (lv_at hl 3 rfl) ?_
                      refine lv_iload_n hx hb dL_law_194 rfl (lv_at hl 0 rfl) ?_
                      refine lv_iconst (v := 1) hx hb dL_law_195 (by decide) ?_
                      refine lv_iadd hx hb dL_law_196 ?_
                      refine va_sld hx hb hX hbl hbA hS (hin 1 (by decide)) dL_law_197 ?_
                      rw [ha1]
                      refine lv_aload_n hx hb dL_law_198 rfl (lv_at hl 3 rfl) ?_
                      refine lv_iload_n hx hb dL_law_199 rfl (lv_at hl 0 rfl) ?_
                      refine lv_iconst (v := 2) hx hb dL_law_200 (by decide) ?_
                      refine lv_iadd hx hb dL_law_201 ?_
                      refine va_sld hx hb hX hbl hbA hS (hin 2 (by decide)) dL_law_202 ?_
                      rw [ha2]
                      refine lv_aload_n hx hb dL_law_203 rfl (lv_at hl 3 rfl) ?_
                      refine lv_iload_n hx hb dL_law_204 rfl (lv_at hl 0 rfl) ?_
                      refine lv_iconst (v := 3) hx hb dL_law_205 (by decide) ?_
                      refine lv_iadd hx hb dL_law_206 ?_
                      refine va_sld hx hb hX hbl hbA hS (hin 3 (by decide)) dL_law_207 ?_
                      rw [ha3]
                      refine dk_Vi (As := [.int a1, .int a2, .int a3]) (rest := []) ⟨hx, hb, hml, hown, hts⟩ (c_X5_row_3 l g z dkI0 a1 a2 a3 (dkN_sub h27 rfl) (dkN_sub h29 rfl) (dkN_sub h30 rfl)) (cwV 3 hts gL_law_X5_row rfl rfl rfl (by decide +kernel) ⟨Nat.le_of_ble_eq_true rfl, Nat.le_of_ble_eq_true rfl⟩) (dk_at0 hW) rfl hK hW hS rfl hl.1 rfl (Nat.le_of_ble_eq_true rfl) dL_law_208 ⟨Nat.le_of_ble_eq_true rfl, Nat.le_of_ble_eq_true rfl⟩ (fun v1 I1 H L hp1 hW hS => ?_)
                      obtain ⟨dv1, hF1, _, -⟩ := hp1
                      refine lv_aload_n hx hb dL_law_211 rfl (lv_at hl 1 rfl) ?_
                      refine lv_aload_n hx hb dL_law_212 rfl (lv_at hl 3 rfl) ?_
                      refine lv_iload_n hx hb dL_law_213 rfl (lv_at hl 0 rfl) ?_
                      refine lv_iconst (v := 1) hx hb dL_law_214 (by decide) ?_
                      refine lv_iadd hx hb dL_law_215 ?_
                      refine va_sld hx hb hX hbl hbA hS (hin 1 (by decide)) dL_law_216 ?_
                      rw [ha1]
                      refine lv_aload_n hx hb dL_law_217 rfl (lv_at hl 3 rfl) ?_
                      refine lv_iload_n hx hb dL_law_218 rfl (lv_at hl 0 rfl) ?_
                      refine lv_iconst (v := 2) hx hb dL_law_219 (by decide) ?_
                      refine lv_iadd hx hb dL_law_220 ?_
                      refine va_sld hx hb hX hbl hbA hS (hin 2 (by decide)) dL_law_221 ?_
                      rw [ha2]
                      refine lv_aload_n hx hb dL_law_222 rfl (lv_at hl 3 rfl) ?_
                      refine lv_iload_n hx hb dL_law_223 rfl (lv_at hl 0 rfl) ?_
                      refine lv_iconst (v := 3) hx hb dL_law_224 (by decide) ?_
                      refine lv_iadd hx hb dL_law_225 ?_
                      refine va_sld hx hb hX hbl hbA hS (hin 3 (by decide)) dL_law_226 ?_
                      rw [ha3]
                      refine dk_Vi (As := [.int a1, .int a2, .int a3]) (rest := [.int v1]) ⟨hx, hb, hml, hown, hts⟩ (c_X6_row_3 l g z I1 a1 a2 a3 (dkN_sub h27 rfl) (dkN_sub h29 rfl) (dkN_sub h30 rfl)) (cwV 3 hts gL_law_X6_row rfl rfl rfl (by decide +kernel) ⟨Nat.le_of_ble_eq_true rfl, Nat.le_of_ble_eq_true rfl⟩) (dk_at340 hW) rfl hK hW hS rfl hl.1 rfl (Nat.le_of_ble_eq_true rfl) dL_law_227 ⟨Nat.le_of_ble_eq_true rfl, Nat.le_of_ble_eq_true rfl⟩ (fun v2 I2 H L hp2 hW hS => ?_)
                      obtain ⟨dv2, hF2, _, -⟩ := hp2
                      refine lv_icmp_eq (tgt := 1302) hx hb dL_law_230 (by decide) (fun c9 => ?_) (fun c9 => ?_)
                      · exact hend _ _ ls hS hl
                      · exact absurd (Int32.toInt_inj.mp ((dkN_one dv1).trans (dkN_one dv2).symm)) c9
                    ·
                      rcases dkN_cut (40) (41) rfl h30 with h31 | h31
                      ·
                        refine lv_aload_n hx hb dL_law_192 rfl (lv_at hl 2 rfl) ?_
                        refine lv_aload_n hx hb dL_law_193 rfl (lv_at hl 3 rfl) ?_
                        refine lv_iload_n hx hb dL_law_194 rfl (lv_at hl 0 rfl) ?_
                        refine lv_iconst (v := 1) hx hb dL_law_195 (by decide) ?_
                        refine lv_iadd hx hb dL_law_196 ?_
                        refine va_sld hx hb hX hbl hbA hS (hin 1 (by decide)) dL_law_197 ?_
                        rw [ha1]
                        refine lv_aload_n hx hb dL_law_198 rfl (lv_at hl 3 rfl) ?_
                        refine lv_iload_n hx hb dL_law_199 rfl (lv_at hl 0 rfl) ?_
                        refine lv_iconst (v := 2) hx hb dL_law_200 (by decide) ?_
                        refine lv_iadd hx hb dL_law_201 ?_
                        refine va_sld hx hb hX hbl hbA hS (hin 2 (by decide)) dL_law_202 ?_
                        rw [ha2]
                        refine lv_aload_n hx hb dL_law_203 rfl (lv_at hl 3 rfl) ?_
                        refine lv_iload_n hx hb dL_law_204 rfl (lv_at hl 0 rfl) ?_
                        refine lv_iconst (v := 3) hx hb dL_law_205 (by decide) ?_
                        refine lv_iadd hx hb dL_law_206 ?_
                        refine va_sld hx hb hX hbl hbA hS (hin 3 (by decide)) dL_law_207 ?_
                        rw [ha3]
                        refine dk_Vi (As := [.int a1, .int a2, .int a3]) (rest := []) ⟨hx, hb, hml, hown, hts⟩ (c_X5_row_9 l g z dkI0 a1 a2 a3 (dkN_sub h27 rfl) (dkN_sub h29 rfl) (dkN_sub h31 rfl) (dkN_lit (0) rfl)) (cwV 3 hts gL_law_X5_row rfl rfl rfl (by decide +kernel) ⟨Nat.le_of_ble_eq_true rfl, Nat.le_of_ble_eq_true rfl⟩) (dk_at0 hW) rfl hK hW hS rfl hl.1 rfl (Nat.le_of_ble_eq_true rfl) dL_law_208 ⟨Nat.le_of_ble_eq_true rfl, Nat.le_of_ble_eq_true rfl⟩ (fun v1 I1 H L hp1 hW hS => ?_)
                        obtain ⟨dv1, hF1, _, ev1, -⟩ := hp1
                        refine lv_aload_n hx hb dL_law_211 rfl (lv_at hl 1 rfl) ?_
                        refine lv_aload_n hx hb dL_law_212 rfl (lv_at hl 3 rfl) ?_
                        refine lv_iload_n hx hb dL_law_213 rfl (lv_at hl 0 rfl) ?_
                        refine lv_iconst (v := 1) hx hb dL_law_214 (by decide) ?_
                        refine lv_iadd hx hb dL_law_215 ?_
                        refine va_sld hx hb hX hbl hbA hS (hin 1 (by decide)) dL_law_216 ?_
                        rw [ha1]
                        refine lv_aload_n hx hb dL_law_217 rfl (lv_at hl 3 rfl) ?_
                        refine lv_iload_n hx hb dL_law_218 rfl (lv_at hl 0 rfl) ?_
                        refine lv_iconst (v := 2) hx hb dL_law_219 (by decide) ?_
                        refine lv_iadd hx hb dL_law_220 ?_
                        refine va_sld hx hb hX hbl hbA hS (hin 2 (by decide)) dL_law_221 ?_
                        rw [ha2]
                        refine lv_aload_n hx hb dL_law_222 rfl (lv_at hl 3 rfl) ?_
                        refine lv_iload_n hx hb dL_law_223 rfl (lv_at hl 0 rfl) ?_
                        refine lv_iconst (v := 3) hx hb dL_law_224 (by decide) ?_
                        refine lv_iadd hx hb dL_law_225 ?_
                        refine va_sld hx hb hX hbl hbA hS (hin 3 (by decide)) dL_law_226 ?_
                        rw [ha3]
                        refine dk_Vi (As := [.int a1, .int a2, .int a3]) (rest := [.int v1]) ⟨hx, hb, hml, hown, hts⟩ (c_X6_row_9 l g z I1 a1 a2 a3 (dkN_sub h27 rfl) (dkN_sub h29 rfl) (dkN_sub h31 rfl) (by rw [hF1 340 4 rfl]; exact dkN_lit (0) rfl)) (cwV 3 hts gL_law_X6_row rfl rfl rfl (by decide +kernel) ⟨Nat.le_of_ble_eq_true rfl, Nat.le_of_ble_eq_true rfl⟩) (dk_at340 hW) rfl hK hW hS rfl hl.1 rfl (Nat.le_of_ble_eq_true rfl) dL_law_227 ⟨Nat.le_of_ble_eq_true rfl, Nat.le_of_ble_eq_true rfl⟩ (fun v2 I2 H L hp2 hW hS => ?_)
                        obtain ⟨dv2, hF2, _, ev2, -⟩ := hp2
                        refine lv_icmp_eq (tgt := 1302) hx hb dL_law_230 (by decide) (fun c9 => ?_) (fun c9 => ?_)
                        · exact hend _ _ ls hS hl
                        · exact absurd (ev1.trans ev2.symm) c9
                      ·
                        refine lv_aload_n hx hb dL_law_192 rfl (lv_at hl 2 rfl) ?_
                        refine lv_aload_n hx hb dL_law_193 rfl (lv_at hl 3 rfl) ?_
                        refine lv_iload_n hx hb dL_law_194 rfl (lv_at hl 0 rfl) ?_
                        refine lv_iconst (v := 1) hx hb dL_law_195 (by decide) ?_
                        refine lv_iadd hx hb dL_law_196 ?_
                        refine va_sld hx hb hX hbl hbA hS (hin 1 (by decide)) dL_law_197 ?_
                        rw [ha1]
                        refine lv_aload_n hx hb dL_law_198 rfl (lv_at hl 3 rfl) ?_
                        refine lv_iload_n hx hb dL_law_199 rfl (lv_at hl 0 rfl) ?_
                        refine lv_iconst (v := 2) hx hb dL_law_200 (by decide) ?_
                        refine lv_iadd hx hb dL_law_201 ?_
                        refine va_sld hx hb hX hbl hbA hS (hin 2 (by decide)) dL_law_202 ?_
                        rw [ha2]
                        refine lv_aload_n hx hb dL_law_203 rfl (lv_at hl 3 rfl) ?_
                        refine lv_iload_n hx hb dL_law_204 rfl (lv_at hl 0 rfl) ?_
                        refine lv_iconst (v := 3) hx hb dL_law_205 (by decide) ?_
                        refine lv_iadd hx hb dL_law_206 ?_
                        refine va_sld hx hb hX hbl hbA hS (hin 3 (by decide)) dL_law_207 ?_
                        rw [ha3]
                        refine dk_Vi (As := [.int a1, .int a2, .int a3]) (rest := []) ⟨hx, hb, hml, hown, hts⟩ (c_X5_row_2 l g z dkI0 a1 a2 a3 (dkN_sub h27 rfl) (dkN_sub h29 rfl) (dkN_sub h31 rfl)) (cwV 3 hts gL_law_X5_row rfl rfl rfl (by decide +kernel) ⟨Nat.le_of_ble_eq_true rfl, Nat.le_of_ble_eq_true rfl⟩) (dk_at0 hW) rfl hK hW hS rfl hl.1 rfl (Nat.le_of_ble_eq_true rfl) dL_law_208 ⟨Nat.le_of_ble_eq_true rfl, Nat.le_of_ble_eq_true rfl⟩ (fun v1 I1 H L hp1 hW hS => ?_)
                        obtain ⟨dv1, hF1, -⟩ := hp1
                        refine lv_aload_n hx hb dL_law_211 rfl (lv_at hl 1 rfl) ?_
                        refine lv_aload_n hx hb dL_law_212 rfl (lv_at hl 3 rfl) ?_
                        refine lv_iload_n hx hb dL_law_213 rfl (lv_at hl 0 rfl) ?_
                        refine lv_iconst (v := 1) hx hb dL_law_214 (by decide) ?_
                        refine lv_iadd hx hb dL_law_215 ?_
                        refine va_sld hx hb hX hbl hbA hS (hin 1 (by decide)) dL_law_216 ?_
                        rw [ha1]
                        refine lv_aload_n hx hb dL_law_217 rfl (lv_at hl 3 rfl) ?_
                        refine lv_iload_n hx hb dL_law_218 rfl (lv_at hl 0 rfl) ?_
                        refine lv_iconst (v := 2) hx hb dL_law_219 (by decide) ?_
                        refine lv_iadd hx hb dL_law_220 ?_
                        refine va_sld hx hb hX hbl hbA hS (hin 2 (by decide)) dL_law_221 ?_
                        rw [ha2]
                        refine lv_aload_n hx hb dL_law_222 rfl (lv_at hl 3 rfl) ?_
                        refine lv_iload_n hx hb dL_law_223 rfl (lv_at hl 0 rfl) ?_
                        refine lv_iconst (v := 3) hx hb dL_law_224 (by decide) ?_
                        refine lv_iadd hx hb dL_law_225 ?_
                        refine va_sld hx hb hX hbl hbA hS (hin 3 (by decide)) dL_law_226 ?_
                        rw [ha3]
                        refine dk_Vi (As := [.int a1, .int a2, .int a3]) (rest := [.int v1]) ⟨hx, hb, hml, hown, hts⟩ (c_X6_row_2 l g z I1 a1 a2 a3 (dkN_sub h27 rfl) (dkN_sub h29 rfl) (dkN_sub h31 rfl)) (cwV 3 hts gL_law_X6_row rfl rfl rfl (by decide +kernel) ⟨Nat.le_of_ble_eq_true rfl, Nat.le_of_ble_eq_true rfl⟩) (dk_at340 hW) rfl hK hW hS rfl hl.1 rfl (Nat.le_of_ble_eq_true rfl) dL_law_227 ⟨Nat.le_of_ble_eq_true rfl, Nat.le_of_ble_eq_true rfl⟩ (fun v2 I2 H L hp2 hW hS => ?_)
                        obtain ⟨dv2, hF2, -⟩ := hp2
                        refine lv_icmp_eq (tgt := 1302) hx hb dL_law_230 (by decide) (fun c9 => ?_) (fun c9 => ?_)
                        · exact hend _ _ ls hS hl
                        · exact absurd (Int32.toInt_inj.mp ((dkN_one dv1).trans (dkN_one dv2).symm)) c9
                  ·
                    refine lv_aload_n hx hb dL_law_192 rfl (lv_at hl 2 rfl) ?_
                    refine lv_aload_n hx hb dL_law_193 rfl (lv_at hl 3 rfl) ?_
                    refine lv_iload_n hx hb dL_law_194 rfl (lv_at hl 0 rfl) ?_
                    refine lv_iconst (v := 1) hx hb dL_law_195 (by decide) ?_
                    refine lv_iadd hx hb dL_law_196 ?_
                    refine va_sld hx hb hX hbl hbA hS (hin 1 (by decide)) dL_law_197 ?_
                    rw [ha1]
                    refine lv_aload_n hx hb dL_law_198 rfl (lv_at hl 3 rfl) ?_
                    refine lv_iload_n hx hb dL_law_199 rfl (lv_at hl 0 rfl) ?_
                    refine lv_iconst (v := 2) hx hb dL_law_200 (by decide) ?_
                    refine lv_iadd hx hb dL_law_201 ?_
                    refine va_sld hx hb hX hbl hbA hS (hin 2 (by decide)) dL_law_202 ?_
                    rw [ha2]
                    refine lv_aload_n hx hb dL_law_203 rfl (lv_at hl 3 rfl) ?_
                    refine lv_iload_n hx hb dL_law_204 rfl (lv_at hl 0 rfl) ?_
                    refine lv_iconst (v := 3) hx hb dL_law_205 (by decide) ?_
                    refine lv_iadd hx hb dL_law_206 ?_
                    refine va_sld hx hb hX hbl hbA hS (hin 3 (by decide)) dL_law_207 ?_
                    rw [ha3]
                    refine dk_Vi (As := [.int a1, .int a2, .int a3]) (rest := []) ⟨hx, hb, hml, hown, hts⟩ (c_X5_row_1 l g z dkI0 a1 a2 a3 (dkN_sub h27 rfl) (dkN_sub h29 rfl)) (cwV 3 hts gL_law_X5_row rfl rfl rfl (by decide +kernel) ⟨Nat.le_of_ble_eq_true rfl, Nat.le_of_ble_eq_true rfl⟩) (dk_at0 hW) rfl hK hW hS rfl hl.1 rfl (Nat.le_of_ble_eq_true rfl) dL_law_208 ⟨Nat.le_of_ble_eq_true rfl, Nat.le_of_ble_eq_true rfl⟩ (fun v1 I1 H L hp1 hW hS => ?_)
                    obtain ⟨dv1, hF1, -⟩ := hp1
                    refine lv_aload_n hx hb dL_law_211 rfl (lv_at hl 1 rfl) ?_
                    refine lv_aload_n hx hb dL_law_212 rfl (lv_at hl 3 rfl) ?_
                    refine lv_iload_n hx hb dL_law_213 rfl (lv_at hl 0 rfl) ?_
                    refine lv_iconst (v := 1) hx hb dL_law_214 (by decide) ?_
                    refine lv_iadd hx hb dL_law_215 ?_
                    refine va_sld hx hb hX hbl hbA hS (hin 1 (by decide)) dL_law_216 ?_
                    rw [ha1]
                    refine lv_aload_n hx hb dL_law_217 rfl (lv_at hl 3 rfl) ?_
                    refine lv_iload_n hx hb dL_law_218 rfl (lv_at hl 0 rfl) ?_
                    refine lv_iconst (v := 2) hx hb dL_law_219 (by decide) ?_
                    refine lv_iadd hx hb dL_law_220 ?_
                    refine va_sld hx hb hX hbl hbA hS (hin 2 (by decide)) dL_law_221 ?_
                    rw [ha2]
                    refine lv_aload_n hx hb dL_law_222 rfl (lv_at hl 3 rfl) ?_
                    refine lv_iload_n hx hb dL_law_223 rfl (lv_at hl 0 rfl) ?_
                    refine lv_iconst (v := 3) hx hb dL_law_224 (by decide) ?_
                    refine lv_iadd hx hb dL_law_225 ?_
                    refine va_sld hx hb hX hbl hbA hS (hin 3 (by decide)) dL_law_226 ?_
                    rw [ha3]
                    refine dk_Vi (As := [.int a1, .int a2, .int a3]) (rest := [.int v1]) ⟨hx, hb, hml, hown, hts⟩ (c_X6_row_1 l g z I1 a1 a2 a3 (dkN_sub h27 rfl) (dkN_sub h29 rfl)) (cwV 3 hts gL_law_X6_row rfl rfl rfl (by decide +kernel) ⟨Nat.le_of_ble_eq_true rfl, Nat.le_of_ble_eq_true rfl⟩) (dk_at340 hW) rfl hK hW hS rfl hl.1 rfl (Nat.le_of_ble_eq_true rfl) dL_law_227 ⟨Nat.le_of_ble_eq_true rfl, Nat.le_of_ble_eq_true rfl⟩ (fun v2 I2 H L hp2 hW hS => ?_)
                    obtain ⟨dv2, hF2, -⟩ := hp2
                    refine lv_icmp_eq (tgt := 1302) hx hb dL_law_230 (by decide) (fun c9 => ?_) (fun c9 => ?_)
                    · exact hend _ _ ls hS hl
                    · exact absurd (Int32.toInt_inj.mp ((dkN_one dv1).trans (dkN_one dv2).symm)) c9
              ·
                rcases dkN_cut (6) (7) rfl h27 with h32 | h32
                ·
                  rcases dkN_cut (-1) (0) rfl (dkN_top a2) with h33 | h33
                  ·
                    refine lv_aload_n hx hb dL_law_192 rfl (lv_at hl 2 rfl) ?_
                    refine lv_aload_n hx hb dL_law_193 rfl (lv_at hl 3 rfl) ?_
                    refine lv_iload_n hx hb dL_law_194 rfl (lv_at hl 0 rfl) ?_
                    refine lv_iconst (v := 1) hx hb dL_law_195 (by decide) ?_
                    refine lv_iadd hx hb dL_law_196 ?_
                    refine va_sld hx hb hX hbl hbA hS (hin 1 (by decide)) dL_law_197 ?_
                    rw [ha1]
                    refine lv_aload_n hx hb dL_law_198 rfl (lv_at hl 3 rfl) ?_
                    refine lv_iload_n hx hb dL_law_199 rfl (lv_at hl 0 rfl) ?_
                    refine lv_iconst (v := 2) hx hb dL_law_200 (by decide) ?_
                    refine lv_iadd hx hb dL_law_201 ?_
                    refine va_sld hx hb hX hbl hbA hS (hin 2 (by decide)) dL_law_202 ?_
                    rw [ha2]
                    refine lv_aload_n hx hb dL_law_203 rfl (lv_at hl 3 rfl) ?_
                    refine lv_iload_n hx hb dL_law_204 rfl (lv_at hl 0 rfl) ?_
                    refine lv_iconst (v := 3) hx hb dL_law_205 (by decide) ?_
                    refine lv_iadd hx hb dL_law_206 ?_
                    refine va_sld hx hb hX hbl hbA hS (hin 3 (by decide)) dL_law_207 ?_
                    rw [ha3]
                    refine dk_Vi (As := [.int a1, .int a2, .int a3]) (rest := []) ⟨hx, hb, hml, hown, hts⟩ (c_X5_row_1 l g z dkI0 a1 a2 a3 (dkN_sub h32 rfl) (dkN_sub h33 rfl)) (cwV 3 hts gL_law_X5_row rfl rfl rfl (by decide +kernel) ⟨Nat.le_of_ble_eq_true rfl, Nat.le_of_ble_eq_true rfl⟩) (dk_at0 hW) rfl hK hW hS rfl hl.1 rfl (Nat.le_of_ble_eq_true rfl) dL_law_208 ⟨Nat.le_of_ble_eq_true rfl, Nat.le_of_ble_eq_true rfl⟩ (fun v1 I1 H L hp1 hW hS => ?_)
                    obtain ⟨dv1, hF1, -⟩ := hp1
                    refine lv_aload_n hx hb dL_law_211 rfl (lv_at hl 1 rfl) ?_
                    refine lv_aload_n hx hb dL_law_212 rfl (lv_at hl 3 rfl) ?_
                    refine lv_iload_n hx hb dL_law_213 rfl (lv_at hl 0 rfl) ?_
                    refine lv_iconst (v := 1) hx hb dL_law_214 (by decide) ?_
                    refine lv_iadd hx hb dL_law_215 ?_
                    refine va_sld hx hb hX hbl hbA hS (hin 1 (by decide)) dL_law_216 ?_
                    rw [ha1]
                    refine lv_aload_n hx hb dL_law_217 rfl (lv_at hl 3 rfl) ?_
                    refine lv_iload_n hx hb dL_law_218 rfl (lv_at hl 0 rfl) ?_
                    refine lv_iconst (v := 2) hx hb dL_law_219 (by decide) ?_
                    refine lv_iadd hx hb dL_law_220 ?_
                    refine va_sld hx hb hX hbl hbA hS (hin 2 (by decide)) dL_law_221 ?_
                    rw [ha2]
                    refine lv_aload_n hx hb dL_law_222 rfl (lv_at hl 3 rfl) ?_
                    refine lv_iload_n hx hb dL_law_223 rfl (lv_at hl 0 rfl) ?_
                    refine lv_iconst (v := 3) hx hb dL_law_224 (by decide) ?_
                    refine lv_iadd hx hb dL_law_225 ?_
                    refine va_sld hx hb hX hbl hbA hS (hin 3 (by decide)) dL_law_226 ?_
                    rw [ha3]
                    refine dk_Vi (As := [.int a1, .int a2, .int a3]) (rest := [.int v1]) ⟨hx, hb, hml, hown, hts⟩ (c_X6_row_1 l g z I1 a1 a2 a3 (dkN_sub h32 rfl) (dkN_sub h33 rfl)) (cwV 3 hts gL_law_X6_row rfl rfl rfl (by decide +kernel) ⟨Nat.le_of_ble_eq_true rfl, Nat.le_of_ble_eq_true rfl⟩) (dk_at340 hW) rfl hK hW hS rfl hl.1 rfl (Nat.le_of_ble_eq_true rfl) dL_law_227 ⟨Nat.le_of_ble_eq_true rfl, Nat.le_of_ble_eq_true rfl⟩ (fun v2 I2 H L hp2 hW hS => ?_)
                    obtain ⟨dv2, hF2, -⟩ := hp2
                    refine lv_icmp_eq (tgt := 1302) hx hb dL_law_230 (by decide) (fun c9 => ?_) (fun c9 => ?_)
                    · exact hend _ _ ls hS hl
                    · exact absurd (Int32.toInt_inj.mp ((dkN_one dv1).trans (dkN_one dv2).symm)) c9
                  ·
                    rcases dkN_cut (2) (3) rfl h33 with h34 | h34
                    ·
                      rcases dkN_cut (-1) (0) rfl (dkN_top a3) with h35 | h35
                      ·
                        refine lv_aload_n hx hb dL_law_192 rfl (lv_at hl 2 rfl) ?_
                        refine lv_aload_n hx hb dL_law_193 rfl (lv_at hl 3 rfl) ?_
                        refine lv_iload_n hx hb dL_law_194 rfl (lv_at hl 0 rfl) ?_
                        refine lv_iconst (v := 1) hx hb dL_law_195 (by decide) ?_
                        refine lv_iadd hx hb dL_law_196 ?_
                        refine va_sld hx hb hX hbl hbA hS (hin 1 (by decide)) dL_law_197 ?_
                        rw [ha1]
                        refine lv_aload_n hx hb dL_law_198 rfl (lv_at hl 3 rfl) ?_
                        refine lv_iload_n hx hb dL_law_199 rfl (lv_at hl 0 rfl) ?_
                        refine lv_iconst (v := 2) hx hb dL_law_200 (by decide) ?_
                        refine lv_iadd hx hb dL_law_201 ?_
                        refine va_sld hx hb hX hbl hbA hS (hin 2 (by decide)) dL_law_202 ?_
                        rw [ha2]
                        refine lv_aload_n hx hb dL_law_203 rfl (lv_at hl 3 rfl) ?_
                        refine lv_iload_n hx hb dL_law_204 rfl (lv_at hl 0 rfl) ?_
                        refine lv_iconst (v := 3) hx hb dL_law_205 (by decide) ?_
                        refine lv_iadd hx hb dL_law_206 ?_
                        refine va_sld hx hb hX hbl hbA hS (hin 3 (by decide)) dL_law_207 ?_
                        rw [ha3]
                        refine dk_Vi (As := [.int a1, .int a2, .int a3]) (rest := []) ⟨hx, hb, hml, hown, hts⟩ (c_X5_row_3 l g z dkI0 a1 a2 a3 (dkN_sub h32 rfl) (dkN_sub h34 rfl) (dkN_sub h35 rfl)) (cwV 3 hts gL_law_X5_row rfl rfl rfl (by decide +kernel) ⟨Nat.le_of_ble_eq_true rfl, Nat.le_of_ble_eq_true rfl⟩) (dk_at0 hW) rfl hK hW hS rfl hl.1 rfl (Nat.le_of_ble_eq_true rfl) dL_law_208 ⟨Nat.le_of_ble_eq_true rfl, Nat.le_of_ble_eq_true rfl⟩ (fun v1 I1 H L hp1 hW hS => ?_)
                        obtain ⟨dv1, hF1, _, -⟩ := hp1
                        refine lv_aload_n hx hb dL_law_211 rfl (lv_at hl 1 rfl) ?_
                        refine lv_aload_n hx hb dL_law_212 rfl (lv_at hl 3 rfl) ?_
                        refine lv_iload_n hx hb dL_law_213 rfl (lv_at hl 0 rfl) ?_
                        refine lv_iconst (v := 1) hx hb dL_law_214 (by decide) ?_
                        refine lv_iadd hx hb dL_law_215 ?_
                        refine va_sld hx hb hX hbl hbA hS (hin 1 (by decide)) dL_law_216 ?_
                        rw [ha1]
                        refine lv_aload_n hx hb dL_law_217 rfl (lv_at hl 3 rfl) ?_
                        refine lv_iload_n hx hb dL_law_218 rfl (lv_at hl 0 rfl) ?_
                        refine lv_iconst (v := 2) hx hb dL_law_219 (by decide) ?_
                        refine lv_iadd hx hb dL_law_220 ?_
                        refine va_sld hx hb hX hbl hbA hS (hin 2 (by decide)) dL_law_221 ?_
                        rw [ha2]
                        refine lv_aload_n hx hb dL_law_222 rfl (lv_at hl 3 rfl) ?_
                        refine lv_iload_n hx hb dL_law_223 rfl (lv_at hl 0 rfl) ?_
                        refine lv_iconst (v := 3) hx hb dL_law_224 (by decide) ?_
                        refine lv_iadd hx hb dL_law_225 ?_
                        refine va_sld hx hb hX hbl hbA hS (hin 3 (by decide)) dL_law_226 ?_
                        rw [ha3]
                        refine dk_Vi (As := [.int a1, .int a2, .int a3]) (rest := [.int v1]) ⟨hx, hb, hml, hown, hts⟩ (c_X6_row_3 l g z I1 a1 a2 a3 (dkN_sub h32 rfl) (dkN_sub h34 rfl) (dkN_sub h35 rfl)) (cwV 3 hts gL_law_X6_row rfl rfl rfl (by decide +kernel) ⟨Nat.le_of_ble_eq_true rfl, Nat.le_of_ble_eq_true rfl⟩) (dk_at340 hW) rfl hK hW hS rfl hl.1 rfl (Nat.le_of_ble_eq_true rfl) dL_law_227 ⟨Nat.le_of_ble_eq_true rfl, Nat.le_of_ble_eq_true rfl⟩ (fun v2 I2 H L hp2 hW hS => ?_)
                        obtain ⟨dv2, hF2, _, -⟩ := hp2
                        refine lv_icmp_eq (tgt := 1302) hx hb dL_law_230 (by decide) (fun c9 => ?_) (fun c9 => ?_)
                        · exact hend _ _ ls hS hl
                        · exact absurd (Int32.toInt_inj.mp ((dkN_one dv1).trans (dkN_one dv2).symm)) c9
                      ·
                        rcases dkN_cut (40) (41) rfl h35 with h36 | h36
                        ·
                          refine lv_aload_n hx hb dL_law_192 rfl (lv_at hl 2 rfl) ?_
                          refine lv_aload_n hx hb dL_law_193 rfl (lv_at hl 3 rfl) ?_
                          refine lv_iload_n hx hb dL_law_194 rfl (lv_at hl 0 rfl) ?_
                          refine lv_iconst (v := 1) hx hb dL_law_195 (by decide) ?_
                          refine lv_iadd hx hb dL_law_196 ?_
                          refine va_sld hx hb hX hbl hbA hS (hin 1 (by decide)) dL_law_197 ?_
                          rw [ha1]
                          refine lv_aload_n hx hb dL_law_198 rfl (lv_at hl 3 rfl) ?_
                          refine lv_iload_n hx hb dL_law_199 rfl (lv_at hl 0 rfl) ?_
                          refine lv_iconst (v := 2) hx hb dL_law_200 (by decide) ?_
                          refine lv_iadd hx hb dL_law_201 ?_
                          refine va_sld hx hb hX hbl hbA hS (hin 2 (by decide)) dL_law_202 ?_
                          rw [ha2]
                          refine lv_aload_n hx hb dL_law_203 rfl (lv_at hl 3 rfl) ?_
                          refine lv_iload_n hx hb dL_law_204 rfl (lv_at hl 0 rfl) ?_
                          refine lv_iconst (v := 3) hx hb dL_law_205 (by decide) ?_
                          refine lv_iadd hx hb dL_law_206 ?_
                          refine va_sld hx hb hX hbl hbA hS (hin 3 (by decide)) dL_law_207 ?_
                          rw [ha3]
                          refine dk_Vi (As := [.int a1, .int a2, .int a3]) (rest := []) ⟨hx, hb, hml, hown, hts⟩ (c_X5_row_10 l g z dkI0 a1 a2 a3 (dkN_sub h32 rfl) (dkN_sub h34 rfl) (dkN_sub h36 rfl) (dkN_lit (0) rfl)) (cwV 3 hts gL_law_X5_row rfl rfl rfl (by decide +kernel) ⟨Nat.le_of_ble_eq_true rfl, Nat.le_of_ble_eq_true rfl⟩) (dk_at0 hW) rfl hK hW hS rfl hl.1 rfl (Nat.le_of_ble_eq_true rfl) dL_law_208 ⟨Nat.le_of_ble_eq_true rfl, Nat.le_of_ble_eq_true rfl⟩ (fun v1 I1 H L hp1 hW hS => ?_)
                          obtain ⟨dv1, hF1, _, ev1, -⟩ := hp1
                          refine lv_aload_n hx hb dL_law_211 rfl (lv_at hl 1 rfl) ?_
                          refine lv_aload_n hx hb dL_law_212 rfl (lv_at hl 3 rfl) ?_
                          refine lv_iload_n hx hb dL_law_213 rfl (lv_at hl 0 rfl) ?_
                          refine lv_iconst (v := 1) hx hb dL_law_214 (by decide) ?_
                          refine lv_iadd hx hb dL_law_215 ?_
                          refine va_sld hx hb hX hbl hbA hS (hin 1 (by decide)) dL_law_216 ?_
                          rw [ha1]
                          refine lv_aload_n hx hb dL_law_217 rfl (lv_at hl 3 rfl) ?_
                          refine lv_iload_n hx hb dL_law_218 rfl (lv_at hl 0 rfl) ?_
                          refine lv_iconst (v := 2) hx hb dL_law_219 (by decide) ?_
                          refine lv_iadd hx hb dL_law_220 ?_
                          refine va_sld hx hb hX hbl hbA hS (hin 2 (by decide)) dL_law_221 ?_
                          rw [ha2]
                          refine lv_aload_n hx hb dL_law_222 rfl (lv_at hl 3 rfl) ?_
                          refine lv_iload_n hx hb dL_law_223 rfl (lv_at hl 0 rfl) ?_
                          refine lv_iconst (v := 3) hx hb dL_law_224 (by decide) ?_
                          refine lv_iadd hx hb dL_law_225 ?_
                          refine va_sld hx hb hX hbl hbA hS (hin 3 (by decide)) dL_law_226 ?_
                          rw [ha3]
                          refine dk_Vi (As := [.int a1, .int a2, .int a3]) (rest := [.int v1]) ⟨hx, hb, hml, hown, hts⟩ (c_X6_row_10 l g z I1 a1 a2 a3 (dkN_sub h32 rfl) (dkN_sub h34 rfl) (dkN_sub h36 rfl) (by rw [hF1 340 4 rfl]; exact dkN_lit (0) rfl)) (cwV 3 hts gL_law_X6_row rfl rfl rfl (by decide +kernel) ⟨Nat.le_of_ble_eq_true rfl, Nat.le_of_ble_eq_true rfl⟩) (dk_at340 hW) rfl hK hW hS rfl hl.1 rfl (Nat.le_of_ble_eq_true rfl) dL_law_227 ⟨Nat.le_of_ble_eq_true rfl, Nat.le_of_ble_eq_true rfl⟩ (fun v2 I2 H L hp2 hW hS => ?_)
                          obtain ⟨dv2, hF2, _, ev2, -⟩ := hp2
                          refine lv_icmp_eq (tgt := 1302) hx hb dL_law_230 (by decide) (fun c9 => ?_) (fun c9 => ?_)
                          · exact hend _ _ ls hS hl
                          · exact absurd (ev1.trans ev2.symm) c9
                        ·
                          refine lv_aload_n hx hb dL_law_192 rfl (lv_at hl 2 rfl) ?_
                          refine lv_aload_n hx hb dL_law_193 rfl (lv_at hl 3 rfl) ?_
                          refine lv_iload_n hx hb dL_law_194 rfl (lv_at hl 0 rfl) ?_
                          refine lv_iconst (v := 1) hx hb dL_law_195 (by decide) ?_
                          refine lv_iadd hx hb dL_law_196 ?_
                          refine va_sld hx hb hX hbl hbA hS (hin 1 (by decide)) dL_law_197 ?_
                          rw [ha1]
                          refine lv_aload_n hx hb dL_law_198 rfl (lv_at hl 3 rfl) ?_
                          refine lv_iload_n hx hb dL_law_199 rfl (lv_at hl 0 rfl) ?_
                          refine lv_iconst (v := 2) hx hb dL_law_200 (by decide) ?_
                          refine lv_iadd hx hb dL_law_201 ?_
                          refine va_sld hx hb hX hbl hbA hS (hin 2 (by decide)) dL_law_202 ?_
                          rw [ha2]
                          refine lv_aload_n hx hb dL_law_203 rfl (lv_at hl 3 rfl) ?_
                          refine lv_iload_n hx hb dL_law_204 rfl (lv_at hl 0 rfl) ?_
                          refine lv_iconst (v := 3) hx hb dL_law_205 (by decide) ?_
                          refine lv_iadd hx hb dL_law_206 ?_
                          refine va_sld hx hb hX hbl hbA hS (hin 3 (by decide)) dL_law_207 ?_
                          rw [ha3]
                          refine dk_Vi (As := [.int a1, .int a2, .int a3]) (rest := []) ⟨hx, hb, hml, hown, hts⟩ (c_X5_row_2 l g z dkI0 a1 a2 a3 (dkN_sub h32 rfl) (dkN_sub h34 rfl) (dkN_sub h36 rfl)) (cwV 3 hts gL_law_X5_row rfl rfl rfl (by decide +kernel) ⟨Nat.le_of_ble_eq_true rfl, Nat.le_of_ble_eq_true rfl⟩) (dk_at0 hW) rfl hK hW hS rfl hl.1 rfl (Nat.le_of_ble_eq_true rfl) dL_law_208 ⟨Nat.le_of_ble_eq_true rfl, Nat.le_of_ble_eq_true rfl⟩ (fun v1 I1 H L hp1 hW hS => ?_)
                          obtain ⟨dv1, hF1, -⟩ := hp1
                          refine lv_aload_n hx hb dL_law_211 rfl (lv_at hl 1 rfl) ?_
                          refine lv_aload_n hx hb dL_law_212 rfl (lv_at hl 3 rfl) ?_
                          refine lv_iload_n hx hb dL_law_213 rfl (lv_at hl 0 rfl) ?_
                          refine lv_iconst (v := 1) hx hb dL_law_214 (by decide) ?_
                          refine lv_iadd hx hb dL_law_215 ?_
                          refine va_sld hx hb hX hbl hbA hS (hin 1 (by decide)) dL_law_216 ?_
                          rw [ha1]
                          refine lv_aload_n hx hb dL_law_217 rfl (lv_at hl 3 rfl) ?_
                          refine lv_iload_n hx hb dL_law_218 rfl (lv_at hl 0 rfl) ?_
                          refine lv_iconst (v := 2) hx hb dL_law_219 (by decide) ?_
                          refine lv_iadd hx hb dL_law_220 ?_
                          refine va_sld hx hb hX hbl hbA hS (hin 2 (by decide)) dL_law_221 ?_
                          rw [ha2]
                          refine lv_aload_n hx hb dL_law_222 rfl (lv_at hl 3 rfl) ?_
                          refine lv_iload_n hx hb dL_law_223 rfl (lv_at hl 0 rfl) ?_
                          refine lv_iconst (v := 3) hx hb dL_law_224 (by decide) ?_
                          refine lv_iadd hx hb dL_law_225 ?_
                          refine va_sld hx hb hX hbl hbA hS (hin 3 (by decide)) dL_law_226 ?_
                          rw [ha3]
                          refine dk_Vi (As := [.int a1, .int a2, .int a3]) (rest := [.int v1]) ⟨hx, hb, hml, hown, hts⟩ (c_X6_row_2 l g z I1 a1 a2 a3 (dkN_sub h32 rfl) (dkN_sub h34 rfl) (dkN_sub h36 rfl)) (cwV 3 hts gL_law_X6_row rfl rfl rfl (by decide +kernel) ⟨Nat.le_of_ble_eq_true rfl, Nat.le_of_ble_eq_true rfl⟩) (dk_at340 hW) rfl hK hW hS rfl hl.1 rfl (Nat.le_of_ble_eq_true rfl) dL_law_227 ⟨Nat.le_of_ble_eq_true rfl, Nat.le_of_ble_eq_true rfl⟩ (fun v2 I2 H L hp2 hW hS => ?_)
                          obtain ⟨dv2, hF2, -⟩ := hp2
                          refine lv_icmp_eq (tgt := 1302) hx hb dL_law_230 (by decide) (fun c9 => ?_) (fun c9 => ?_)
                          · exact hend _ _ ls hS hl
                          · exact absurd (Int32.toInt_inj.mp ((dkN_one dv1).trans (dkN_one dv2).symm)) c9
                    ·
                      refine lv_aload_n hx hb dL_law_192 rfl (lv_at hl 2 rfl) ?_
                      refine lv_aload_n hx hb dL_law_193 rfl (lv_at hl 3 rfl) ?_
                      refine lv_iload_n hx hb dL_law_194 rfl (lv_at hl 0 rfl) ?_
                      refine lv_iconst (v := 1) hx hb dL_law_195 (by decide) ?_
                      refine lv_iadd hx hb dL_law_196 ?_
                      refine va_sld hx hb hX hbl hbA hS (hin 1 (by decide)) dL_law_197 ?_
                      rw [ha1]
                      refine lv_aload_n hx hb dL_law_198 rfl (lv_at hl 3 rfl) ?_
                      refine lv_iload_n hx hb dL_law_199 rfl (lv_at hl 0 rfl) ?_
                      refine lv_iconst (v := 2) hx hb dL_law_200 (by decide) ?_
                      refine lv_iadd hx hb dL_law_201 ?_
                      refine va_sld hx hb hX hbl hbA hS (hin 2 (by decide)) dL_law_202 ?_
                      rw [ha2]
                      refine lv_aload_n hx hb dL_law_203 rfl (lv_at hl 3 rfl) ?_
                      refine lv_iload_n hx hb dL_law_204 rfl (lv_at hl 0 rfl) ?_
                      refine lv_iconst (v := 3) hx hb dL_law_205 (by decide) ?_
                      refine lv_iadd hx hb dL_law_206 ?_
                      refine va_sld hx hb hX hbl hbA hS (hin 3 (by decide)) dL_law_207 ?_
                      rw [ha3]
                      refine dk_Vi (As := [.int a1, .int a2, .int a3]) (rest := []) ⟨hx, hb, hml, hown, hts⟩ (c_X5_row_1 l g z dkI0 a1 a2 a3 (dkN_sub h32 rfl) (dkN_sub h34 rfl)) (cwV 3 hts gL_law_X5_row rfl rfl rfl (by decide +kernel) ⟨Nat.le_of_ble_eq_true rfl, Nat.le_of_ble_eq_true rfl⟩) (dk_at0 hW) rfl hK hW hS rfl hl.1 rfl (Nat.le_of_ble_eq_true rfl) dL_law_208 ⟨Nat.le_of_ble_eq_true rfl, Nat.le_of_ble_eq_true rfl⟩ (fun v1 I1 H L hp1 hW hS => ?_)
                      obtain ⟨dv1, hF1, -⟩ := hp1
                      refine lv_aload_n hx hb dL_law_211 rfl (lv_at hl 1 rfl) ?_
                      refine lv_aload_n hx hb dL_law_212 rfl (lv_at hl 3 rfl) ?_
                      refine lv_iload_n hx hb dL_law_213 rfl (lv_at hl 0 rfl) ?_
                      refine lv_iconst (v := 1) hx hb dL_law_214 (by decide) ?_
                      refine lv_iadd hx hb dL_law_215 ?_
                      refine va_sld hx hb hX hbl hbA hS (hin 1 (by decide)) dL_law_216 ?_
                      rw [ha1]
                      refine lv_aload_n hx hb dL_law_217 rfl (lv_at hl 3 rfl) ?_
                      refine lv_iload_n hx hb dL_law_218 rfl (lv_at hl 0 rfl) ?_
                      refine lv_iconst (v := 2) hx hb dL_law_219 (by decide) ?_
                      refine lv_iadd hx hb dL_law_220 ?_
                      refine va_sld hx hb hX hbl hbA hS (hin 2 (by decide)) dL_law_221 ?_
                      rw [ha2]
                      refine lv_aload_n hx hb dL_law_222 rfl (lv_at hl 3 rfl) ?_
                      refine lv_iload_n hx hb dL_law_223 rfl (lv_at hl 0 rfl) ?_
                      refine lv_iconst (v := 3) hx hb dL_law_224 (by decide) ?_
                      refine lv_iadd hx hb dL_law_225 ?_
                      refine va_sld hx hb hX hbl hbA hS (hin 3 (by decide)) dL_law_226 ?_
                      rw [ha3]
                      refine dk_Vi (As := [.int a1, .int a2, .int a3]) (rest := [.int v1]) ⟨hx, hb, hml, hown, hts⟩ (c_X6_row_1 l g z I1 a1 a2 a3 (dkN_sub h32 rfl) (dkN_sub h34 rfl)) (cwV 3 hts gL_law_X6_row rfl rfl rfl (by decide +kernel) ⟨Nat.le_of_ble_eq_true rfl, Nat.le_of_ble_eq_true rfl⟩) (dk_at340 hW) rfl hK hW hS rfl hl.1 rfl (Nat.le_of_ble_eq_true rfl) dL_law_227 ⟨Nat.le_of_ble_eq_true rfl, Nat.le_of_ble_eq_true rfl⟩ (fun v2 I2 H L hp2 hW hS => ?_)
                      obtain ⟨dv2, hF2, -⟩ := hp2
                      refine lv_icmp_eq (tgt := 1302) hx hb dL_law_230 (by decide) (fun c9 => ?_) (fun c9 => ?_)
                      · exact hend _ _ ls hS hl
                      · exact absurd (Int32.toInt_inj.mp ((dkN_one dv1).trans (dkN_one dv2).symm)) c9
                ·
                  rcases dkN_cut (7) (8) rfl h32 with h37 | h37
                  ·
                    rcases dkN_cut (-1) (0) rfl (dkN_top a2) with h38 | h38
                    ·
                      refine lv_aload_n hx hb dL_law_192 rfl (lv_at hl 2 rfl) ?_
                      refine lv_aload_n hx hb dL_law_193 rfl (lv_at hl 3 rfl) ?_
                      refine lv_iload_n hx hb dL_law_194 rfl (lv_at hl 0 rfl) ?_
                      refine lv_iconst (v := 1) hx hb dL_law_195 (by decide) ?_
                      refine lv_iadd hx hb dL_law_196 ?_
                      refine va_sld hx hb hX hbl hbA hS (hin 1 (by decide)) dL_law_197 ?_
                      rw [ha1]
                      refine lv_aload_n hx hb dL_law_198 rfl (lv_at hl 3 rfl) ?_
                      refine lv_iload_n hx hb dL_law_199 rfl (lv_at hl 0 rfl) ?_
                      refine lv_iconst (v := 2) hx hb dL_law_200 (by decide) ?_
                      refine lv_iadd hx hb dL_law_201 ?_
                      refine va_sld hx hb hX hbl hbA hS (hin 2 (by decide)) dL_law_202 ?_
                      rw [ha2]
                      refine lv_aload_n hx hb dL_law_203 rfl (lv_at hl 3 rfl) ?_
                      refine lv_iload_n hx hb dL_law_204 rfl (lv_at hl 0 rfl) ?_
                      refine lv_iconst (v := 3) hx hb dL_law_205 (by decide) ?_
                      refine lv_iadd hx hb dL_law_206 ?_
                      refine va_sld hx hb hX hbl hbA hS (hin 3 (by decide)) dL_law_207 ?_
                      rw [ha3]
                      refine dk_Vi (As := [.int a1, .int a2, .int a3]) (rest := []) ⟨hx, hb, hml, hown, hts⟩ (c_X5_row_1 l g z dkI0 a1 a2 a3 (dkN_sub h37 rfl) (dkN_sub h38 rfl)) (cwV 3 hts gL_law_X5_row rfl rfl rfl (by decide +kernel) ⟨Nat.le_of_ble_eq_true rfl, Nat.le_of_ble_eq_true rfl⟩) (dk_at0 hW) rfl hK hW hS rfl hl.1 rfl (Nat.le_of_ble_eq_true rfl) dL_law_208 ⟨Nat.le_of_ble_eq_true rfl, Nat.le_of_ble_eq_true rfl⟩ (fun v1 I1 H L hp1 hW hS => ?_)
                      obtain ⟨dv1, hF1, -⟩ := hp1
                      refine lv_aload_n hx hb dL_law_211 rfl (lv_at hl 1 rfl) ?_
                      refine lv_aload_n hx hb dL_law_212 rfl (lv_at hl 3 rfl) ?_
                      refine lv_iload_n hx hb dL_law_213 rfl (lv_at hl 0 rfl) ?_
                      refine lv_iconst (v := 1) hx hb dL_law_214 (by decide) ?_
                      refine lv_iadd hx hb dL_law_215 ?_
                      refine va_sld hx hb hX hbl hbA hS (hin 1 (by decide)) dL_law_216 ?_
                      rw [ha1]
                      refine lv_aload_n hx hb dL_law_217 rfl (lv_at hl 3 rfl) ?_
                      refine lv_iload_n hx hb dL_law_218 rfl (lv_at hl 0 rfl) ?_
                      refine lv_iconst (v := 2) hx hb dL_law_219 (by decide) ?_
                      refine lv_iadd hx hb dL_law_220 ?_
                      refine va_sld hx hb hX hbl hbA hS (hin 2 (by decide)) dL_law_221 ?_
                      rw [ha2]
                      refine lv_aload_n hx hb dL_law_222 rfl (lv_at hl 3 rfl) ?_
                      refine lv_iload_n hx hb dL_law_223 rfl (lv_at hl 0 rfl) ?_
                      refine lv_iconst (v := 3) hx hb dL_law_224 (by decide) ?_
                      refine lv_iadd hx hb dL_law_225 ?_
                      refine va_sld hx hb hX hbl hbA hS (hin 3 (by decide)) dL_law_226 ?_
                      rw [ha3]
                      refine dk_Vi (As := [.int a1, .int a2, .int a3]) (rest := [.int v1]) ⟨hx, hb, hml, hown, hts⟩ (c_X6_row_1 l g z I1 a1 a2 a3 (dkN_sub h37 rfl) (dkN_sub h38 rfl)) (cwV 3 hts gL_law_X6_row rfl rfl rfl (by decide +kernel) ⟨Nat.le_of_ble_eq_true rfl, Nat.le_of_ble_eq_true rfl⟩) (dk_at340 hW) rfl hK hW hS rfl hl.1 rfl (Nat.le_of_ble_eq_true rfl) dL_law_227 ⟨Nat.le_of_ble_eq_true rfl, Nat.le_of_ble_eq_true rfl⟩ (fun v2 I2 H L hp2 hW hS => ?_)
                      obtain ⟨dv2, hF2, -⟩ := hp2
                      refine lv_icmp_eq (tgt := 1302) hx hb dL_law_230 (by decide) (fun c9 => ?_) (fun c9 => ?_)
                      · exact hend _ _ ls hS hl
                      · exact absurd (Int32.toInt_inj.mp ((dkN_one dv1).trans (dkN_one dv2).symm)) c9
                    ·
                      rcases dkN_cut (2) (3) rfl h38 with h39 | h39
                      ·
                        rcases dkN_cut (-1) (0) rfl (dkN_top a3) with h40 | h40
                        ·
                          refine lv_aload_n hx hb dL_law_192 rfl (lv_at hl 2 rfl) ?_
                          refine lv_aload_n hx hb dL_law_193 rfl (lv_at hl 3 rfl) ?_
                          refine lv_iload_n hx hb dL_law_194 rfl (lv_at hl 0 rfl) ?_
                          refine lv_iconst (v := 1) hx hb dL_law_195 (by decide) ?_
                          refine lv_iadd hx hb dL_law_196 ?_
                          refine va_sld hx hb hX hbl hbA hS (hin 1 (by decide)) dL_law_197 ?_
                          rw [ha1]
                          refine lv_aload_n hx hb dL_law_198 rfl (lv_at hl 3 rfl) ?_
                          refine lv_iload_n hx hb dL_law_199 rfl (lv_at hl 0 rfl) ?_
                          refine lv_iconst (v := 2) hx hb dL_law_200 (by decide) ?_
                          refine lv_iadd hx hb dL_law_201 ?_
                          refine va_sld hx hb hX hbl hbA hS (hin 2 (by decide)) dL_law_202 ?_
                          rw [ha2]
                          refine lv_aload_n hx hb dL_law_203 rfl (lv_at hl 3 rfl) ?_
                          refine lv_iload_n hx hb dL_law_204 rfl (lv_at hl 0 rfl) ?_
                          refine lv_iconst (v := 3) hx hb dL_law_205 (by decide) ?_
                          refine lv_iadd hx hb dL_law_206 ?_
                          refine va_sld hx hb hX hbl hbA hS (hin 3 (by decide)) dL_law_207 ?_
                          rw [ha3]
                          refine dk_Vi (As := [.int a1, .int a2, .int a3]) (rest := []) ⟨hx, hb, hml, hown, hts⟩ (c_X5_row_3 l g z dkI0 a1 a2 a3 (dkN_sub h37 rfl) (dkN_sub h39 rfl) (dkN_sub h40 rfl)) (cwV 3 hts gL_law_X5_row rfl rfl rfl (by decide +kernel) ⟨Nat.le_of_ble_eq_true rfl, Nat.le_of_ble_eq_true rfl⟩) (dk_at0 hW) rfl hK hW hS rfl hl.1 rfl (Nat.le_of_ble_eq_true rfl) dL_law_208 ⟨Nat.le_of_ble_eq_true rfl, Nat.le_of_ble_eq_true rfl⟩ (fun v1 I1 H L hp1 hW hS => ?_)
                          obtain ⟨dv1, hF1, _, -⟩ := hp1
                          refine lv_aload_n hx hb dL_law_211 rfl (lv_at hl 1 rfl) ?_
                          refine lv_aload_n hx hb dL_law_212 rfl (lv_at hl 3 rfl) ?_
                          refine lv_iload_n hx hb dL_law_213 rfl (lv_at hl 0 rfl) ?_
                          refine lv_iconst (v := 1) hx hb dL_law_214 (by decide) ?_
                          refine lv_iadd hx hb dL_law_215 ?_
                          refine va_sld hx hb hX hbl hbA hS (hin 1 (by decide)) dL_law_216 ?_
                          rw [ha1]
                          refine lv_aload_n hx hb dL_law_217 rfl (lv_at hl 3 rfl) ?_
                          refine lv_iload_n hx hb dL_law_218 rfl (lv_at hl 0 rfl) ?_
                          refine lv_iconst (v := 2) hx hb dL_law_219 (by decide) ?_
                          refine lv_iadd hx hb dL_law_220 ?_
                          refine va_sld hx hb hX hbl hbA hS (hin 2 (by decide)) dL_law_221 ?_
                          rw [ha2]
                          refine lv_aload_n hx hb dL_law_222 rfl (lv_at hl 3 rfl) ?_
                          refine lv_iload_n hx hb dL_law_223 rfl (lv_at hl 0 rfl) ?_
                          refine lv_iconst (v := 3) hx hb dL_law_224 (by decide) ?_
                          refine lv_iadd hx hb dL_law_225 ?_
                          refine va_sld hx hb hX hbl hbA hS (hin 3 (by decide)) dL_law_226 ?_
                          rw [ha3]
                          refine dk_Vi (As := [.int a1, .int a2, .int a3]) (rest := [.int v1]) ⟨hx, hb, hml, hown, hts⟩ (c_X6_row_3 l g z I1 a1 a2 a3 (dkN_sub h37 rfl) (dkN_sub h39 rfl) (dkN_sub h40 rfl)) (cwV 3 hts gL_law_X6_row rfl rfl rfl (by decide +kernel) ⟨Nat.le_of_ble_eq_true rfl, Nat.le_of_ble_eq_true rfl⟩) (dk_at340 hW) rfl hK hW hS rfl hl.1 rfl (Nat.le_of_ble_eq_true rfl) dL_law_227 ⟨Nat.le_of_ble_eq_true rfl, Nat.le_of_ble_eq_true rfl⟩ (fun v2 I2 H L hp2 hW hS => ?_)
                          obtain ⟨dv2, hF2, _, -⟩ := hp2
                          refine lv_icmp_eq (tgt := 1302) hx hb dL_law_230 (by decide) (fun c9 => ?_) (fun c9 => ?_)
                          · exact hend _ _ ls hS hl
                          · exact absurd (Int32.toInt_inj.mp ((dkN_one dv1).trans (dkN_one dv2).symm)) c9
                        ·
                          rcases dkN_cut (40) (41) rfl h40 with h41 | h41
                          ·
                            refine lv_aload_n hx hb dL_law_192 rfl (lv_at hl 2 rfl) ?_
                            refine lv_aload_n hx hb dL_law_193 rfl (lv_at hl 3 rfl) ?_
                            refine lv_iload_n hx hb dL_law_194 rfl (lv_at hl 0 rfl) ?_
                            refine lv_iconst (v := 1) hx hb dL_law_195 (by decide) ?_
                            refine lv_iadd hx hb dL_law_196 ?_
                            refine va_sld hx hb hX hbl hbA hS (hin 1 (by decide)) dL_law_197 ?_
                            rw [ha1]
                            refine lv_aload_n hx hb dL_law_198 rfl (lv_at hl 3 rfl) ?_
                            refine lv_iload_n hx hb dL_law_199 rfl (lv_at hl 0 rfl) ?_
                            refine lv_iconst (v := 2) hx hb dL_law_200 (by decide) ?_
                            refine lv_iadd hx hb dL_law_201 ?_
                            refine va_sld hx hb hX hbl hbA hS (hin 2 (by decide)) dL_law_202 ?_
                            rw [ha2]
                            refine lv_aload_n hx hb dL_law_203 rfl (lv_at hl 3 rfl) ?_
                            refine lv_iload_n hx hb dL_law_204 rfl (lv_at hl 0 rfl) ?_
                            refine lv_iconst (v := 3) hx hb dL_law_205 (by decide) ?_
                            refine lv_iadd hx hb dL_law_206 ?_
                            refine va_sld hx hb hX hbl hbA hS (hin 3 (by decide)) dL_law_207 ?_
                            rw [ha3]
                            refine dk_Vi (As := [.int a1, .int a2, .int a3]) (rest := []) ⟨hx, hb, hml, hown, hts⟩ (c_X5_row_11 l g z dkI0 a1 a2 a3 (dkN_sub h37 rfl) (dkN_sub h39 rfl) (dkN_sub h41 rfl) (dkN_lit (0) rfl)) (cwV 3 hts gL_law_X5_row rfl rfl rfl (by decide +kernel) ⟨Nat.le_of_ble_eq_true rfl, Nat.le_of_ble_eq_true rfl⟩) (dk_at0 hW) rfl hK hW hS rfl hl.1 rfl (Nat.le_of_ble_eq_true rfl) dL_law_208 ⟨Nat.le_of_ble_eq_true rfl, Nat.le_of_ble_eq_true rfl⟩ (fun v1 I1 H L hp1 hW hS => ?_)
                            obtain ⟨dv1, hF1, _, ev1, -⟩ := hp1
                            refine lv_aload_n hx hb dL_law_211 rfl (lv_at hl 1 rfl) ?_
                            refine lv_aload_n hx hb dL_law_212 rfl (lv_at hl 3 rfl) ?_
                            refine lv_iload_n hx hb dL_law_213 rfl (lv_at hl 0 rfl) ?_
                            refine lv_iconst (v := 1) hx hb dL_law_214 (by decide) ?_
                            refine lv_iadd hx hb dL_law_215 ?_
                            refine va_sld hx hb hX hbl hbA hS (hin 1 (by decide)) dL_law_216 ?_
                            rw [ha1]
                            refine lv_aload_n hx hb dL_law_217 rfl (lv_at hl 3 rfl) ?_
                            refine lv_iload_n hx hb dL_law_218 rfl (lv_at hl 0 rfl) ?_
                            refine lv_iconst (v := 2) hx hb dL_law_219 (by decide) ?_
                            refine lv_iadd hx hb dL_law_220 ?_
                            refine va_sld hx hb hX hbl hbA hS (hin 2 (by decide)) dL_law_221 ?_
                            rw [ha2]
                            refine lv_aload_n hx hb dL_law_222 rfl (lv_at hl 3 rfl) ?_
                            refine lv_iload_n hx hb dL_law_223 rfl (lv_at hl 0 rfl) ?_
                            refine lv_iconst (v := 3) hx hb dL_law_224 (by decide) ?_
                            refine lv_iadd hx hb dL_law_225 ?_
                            refine va_sld hx hb hX hbl hbA hS (hin 3 (by decide)) dL_law_226 ?_
                            rw [ha3]
                            refine dk_Vi (As := [.int a1, .int a2, .int a3]) (rest := [.int v1]) ⟨hx, hb, hml, hown, hts⟩ (c_X6_row_11 l g z I1 a1 a2 a3 (dkN_sub h37 rfl) (dkN_sub h39 rfl) (dkN_sub h41 rfl) (by rw [hF1 340 4 rfl]; exact dkN_lit (0) rfl)) (cwV 3 hts gL_law_X6_row rfl rfl rfl (by decide +kernel) ⟨Nat.le_of_ble_eq_true rfl, Nat.le_of_ble_eq_true rfl⟩) (dk_at340 hW) rfl hK hW hS rfl hl.1 rfl (Nat.le_of_ble_eq_true rfl) dL_law_227 ⟨Nat.le_of_ble_eq_true rfl, Nat.le_of_ble_eq_true rfl⟩ (fun v2 I2 H L hp2 hW hS => ?_)
                            obtain ⟨dv2, hF2, _, ev2, -⟩ := hp2
                            refine lv_icmp_eq (tgt := 1302) hx hb dL_law_230 (by decide) (fun c9 => ?_) (fun c9 => ?_)
                            · exact hend _ _ ls hS hl
                            · exact absurd (ev1.trans ev2.symm) c9
                          ·
                            refine lv_aload_n hx hb dL_law_192 rfl (lv_at hl 2 rfl) ?_
                            refine lv_aload_n hx hb dL_law_193 rfl (lv_at hl 3 rfl) ?_
                            refine lv_iload_n hx hb dL_law_194 rfl (lv_at hl 0 rfl) ?_
                            refine lv_iconst (v := 1) hx hb dL_law_195 (by decide) ?_
                            refine lv_iadd hx hb dL_law_196 ?_
                            refine va_sld hx hb hX hbl hbA hS (hin 1 (by decide)) dL_law_197 ?_
                            rw [ha1]
                            refine lv_aload_n hx hb dL_law_198 rfl (lv_at hl 3 rfl) ?_
                            refine lv_iload_n hx hb dL_law_199 rfl (lv_at hl 0 rfl) ?_
                            refine lv_iconst (v := 2) hx hb dL_law_200 (by decide) ?_
                            refine lv_iadd hx hb dL_law_201 ?_
                            refine va_sld hx hb hX hbl hbA hS (hin 2 (by decide)) dL_law_202 ?_
                            rw [ha2]
                            refine lv_aload_n hx hb dL_law_203 rfl (lv_at hl 3 rfl) ?_
                            refine lv_iload_n hx hb dL_law_204 rfl (lv_at hl 0 rfl) ?_
                            refine lv_iconst (v := 3) hx hb dL_law_205 (by decide) ?_
                            refine lv_iadd hx hb dL_law_206 ?_
                            refine va_sld hx hb hX hbl hbA hS (hin 3 (by decide)) dL_law_207 ?_
                            rw [ha3]
                            refine dk_Vi (As := [.int a1, .int a2, .int a3]) (rest := []) ⟨hx, hb, hml, hown, hts⟩ (c_X5_row_2 l g z dkI0 a1 a2 a3 (dkN_sub h37 rfl) (dkN_sub h39 rfl) (dkN_sub h41 rfl)) (cwV 3 hts gL_law_X5_row rfl rfl rfl (by decide +kernel) ⟨Nat.le_of_ble_eq_true rfl, Nat.le_of_ble_eq_true rfl⟩) (dk_at0 hW) rfl hK hW hS rfl hl.1 rfl (Nat.le_of_ble_eq_true rfl) dL_law_208 ⟨Nat.le_of_ble_eq_true rfl, Nat.le_of_ble_eq_true rfl⟩ (fun v1 I1 H L hp1 hW hS => ?_)
                            obtain ⟨dv1, hF1, -⟩ := hp1
                            refine lv_aload_n hx hb dL_law_211 rfl (lv_at hl 1 rfl) ?_
                            refine lv_aload_n hx hb dL_law_212 rfl (lv_at hl 3 rfl) ?_
                            refine lv_iload_n hx hb dL_law_213 rfl (lv_at hl 0 rfl) ?_
                            refine lv_iconst (v := 1) hx hb dL_law_214 (by decide) ?_
                            refine lv_iadd hx hb dL_law_215 ?_
                            refine va_sld hx hb hX hbl hbA hS (hin 1 (by decide)) dL_law_216 ?_
                            rw [ha1]
                            refine lv_aload_n hx hb dL_law_217 rfl (lv_at hl 3 rfl) ?_
                            refine lv_iload_n hx hb dL_law_218 rfl (lv_at hl 0 rfl) ?_
                            refine lv_iconst (v := 2) hx hb dL_law_219 (by decide) ?_
                            refine lv_iadd hx hb dL_law_220 ?_
                            refine va_sld hx hb hX hbl hbA hS (hin 2 (by decide)) dL_law_221 ?_
                            rw [ha2]
                            refine lv_aload_n hx hb dL_law_222 rfl (lv_at hl 3 rfl) ?_
                            refine lv_iload_n hx hb dL_law_223 rfl (lv_at hl 0 rfl) ?_
                            refine lv_iconst (v := 3) hx hb dL_law_224 (by decide) ?_
                            refine lv_iadd hx hb dL_law_225 ?_
                            refine va_sld hx hb hX hbl hbA hS (hin 3 (by decide)) dL_law_226 ?_
                            rw [ha3]
                            refine dk_Vi (As := [.int a1, .int a2, .int a3]) (rest := [.int v1]) ⟨hx, hb, hml, hown, hts⟩ (c_X6_row_2 l g z I1 a1 a2 a3 (dkN_sub h37 rfl) (dkN_sub h39 rfl) (dkN_sub h41 rfl)) (cwV 3 hts gL_law_X6_row rfl rfl rfl (by decide +kernel) ⟨Nat.le_of_ble_eq_true rfl, Nat.le_of_ble_eq_true rfl⟩) (dk_at340 hW) rfl hK hW hS rfl hl.1 rfl (Nat.le_of_ble_eq_true rfl) dL_law_227 ⟨Nat.le_of_ble_eq_true rfl, Nat.le_of_ble_eq_true rfl⟩ (fun v2 I2 H L hp2 hW hS => ?_)
                            obtain ⟨dv2, hF2, -⟩ := hp2
                            refine lv_icmp_eq (tgt := 1302) hx hb dL_law_230 (by decide) (fun c9 => ?_) (fun c9 => ?_)
                            · exact hend _ _ ls hS hl
                            · exact absurd (Int32.toInt_inj.mp ((dkN_one dv1).trans (dkN_one dv2).symm)) c9
                      ·
                        refine lv_aload_n hx hb dL_law_192 rfl (lv_at hl 2 rfl) ?_
                        refine lv_aload_n hx hb dL_law_193 rfl (lv_at hl 3 rfl) ?_
                        refine lv_iload_n hx hb dL_law_194 rfl (lv_at hl 0 rfl) ?_
                        refine lv_iconst (v := 1) hx hb dL_law_195 (by decide) ?_
                        refine lv_iadd hx hb dL_law_196 ?_
                        refine va_sld hx hb hX hbl hbA hS (hin 1 (by decide)) dL_law_197 ?_
                        rw [ha1]
                        refine lv_aload_n hx hb dL_law_198 rfl (lv_at hl 3 rfl) ?_
                        refine lv_iload_n hx hb dL_law_199 rfl (lv_at hl 0 rfl) ?_
                        refine lv_iconst (v := 2) hx hb dL_law_200 (by decide) ?_
                        refine lv_iadd hx hb dL_law_201 ?_
                        refine va_sld hx hb hX hbl hbA hS (hin 2 (by decide)) dL_law_202 ?_
                        rw [ha2]
                        refine lv_aload_n hx hb dL_law_203 rfl (lv_at hl 3 rfl) ?_
                        refine lv_iload_n hx hb dL_law_204 rfl (lv_at hl 0 rfl) ?_
                        refine lv_iconst (v := 3) hx hb dL_law_205 (by decide) ?_
                        refine lv_iadd hx hb dL_law_206 ?_
                        refine va_sld hx hb hX hbl hbA hS (hin 3 (by decide)) dL_law_207 ?_
                        rw [ha3]
                        refine dk_Vi (As := [.int a1, .int a2, .int a3]) (rest := []) ⟨hx, hb, hml, hown, hts⟩ (c_X5_row_1 l g z dkI0 a1 a2 a3 (dkN_sub h37 rfl) (dkN_sub h39 rfl)) (cwV 3 hts gL_law_X5_row rfl rfl rfl (by decide +kernel) ⟨Nat.le_of_ble_eq_true rfl, Nat.le_of_ble_eq_true rfl⟩) (dk_at0 hW) rfl hK hW hS rfl hl.1 rfl (Nat.le_of_ble_eq_true rfl) dL_law_208 ⟨Nat.le_of_ble_eq_true rfl, Nat.le_of_ble_eq_true rfl⟩ (fun v1 I1 H L hp1 hW hS => ?_)
                        obtain ⟨dv1, hF1, -⟩ := hp1
                        refine lv_aload_n hx hb dL_law_211 rfl (lv_at hl 1 rfl) ?_
                        refine lv_aload_n hx hb dL_law_212 rfl (lv_at hl 3 rfl) ?_
                        refine lv_iload_n hx hb dL_law_213 rfl (lv_at hl 0 rfl) ?_
                        refine lv_iconst (v := 1) hx hb dL_law_214 (by decide) ?_
                        refine lv_iadd hx hb dL_law_215 ?_
                        refine va_sld hx hb hX hbl hbA hS (hin 1 (by decide)) dL_law_216 ?_
                        rw [ha1]
                        refine lv_aload_n hx hb dL_law_217 rfl (lv_at hl 3 rfl) ?_
                        refine lv_iload_n hx hb dL_law_218 rfl (lv_at hl 0 rfl) ?_
                        refine lv_iconst (v := 2) hx hb dL_law_219 (by decide) ?_
                        refine lv_iadd hx hb dL_law_220 ?_
                        refine va_sld hx hb hX hbl hbA hS (hin 2 (by decide)) dL_law_221 ?_
                        rw [ha2]
                        refine lv_aload_n hx hb dL_law_222 rfl (lv_at hl 3 rfl) ?_
                        refine lv_iload_n hx hb dL_law_223 rfl (lv_at hl 0 rfl) ?_
                        refine lv_iconst (v := 3) hx hb dL_law_224 (by decide) ?_
                        refine lv_iadd hx hb dL_law_225 ?_
                        refine va_sld hx hb hX hbl hbA hS (hin 3 (by decide)) dL_law_226 ?_
                        rw [ha3]
                        refine dk_Vi (As := [.int a1, .int a2, .int a3]) (rest := [.int v1]) ⟨hx, hb, hml, hown, hts⟩ (c_X6_row_1 l g z I1 a1 a2 a3 (dkN_sub h37 rfl) (dkN_sub h39 rfl)) (cwV 3 hts gL_law_X6_row rfl rfl rfl (by decide +kernel) ⟨Nat.le_of_ble_eq_true rfl, Nat.le_of_ble_eq_true rfl⟩) (dk_at340 hW) rfl hK hW hS rfl hl.1 rfl (Nat.le_of_ble_eq_true rfl) dL_law_227 ⟨Nat.le_of_ble_eq_true rfl, Nat.le_of_ble_eq_true rfl⟩ (fun v2 I2 H L hp2 hW hS => ?_)
                        obtain ⟨dv2, hF2, -⟩ := hp2
                        refine lv_icmp_eq (tgt := 1302) hx hb dL_law_230 (by decide) (fun c9 => ?_) (fun c9 => ?_)
                        · exact hend _ _ ls hS hl
                        · exact absurd (Int32.toInt_inj.mp ((dkN_one dv1).trans (dkN_one dv2).symm)) c9
                  ·
                    refine lv_aload_n hx hb dL_law_192 rfl (lv_at hl 2 rfl) ?_
                    refine lv_aload_n hx hb dL_law_193 rfl (lv_at hl 3 rfl) ?_
                    refine lv_iload_n hx hb dL_law_194 rfl (lv_at hl 0 rfl) ?_
                    refine lv_iconst (v := 1) hx hb dL_law_195 (by decide) ?_
                    refine lv_iadd hx hb dL_law_196 ?_
                    refine va_sld hx hb hX hbl hbA hS (hin 1 (by decide)) dL_law_197 ?_
                    rw [ha1]
                    refine lv_aload_n hx hb dL_law_198 rfl (lv_at hl 3 rfl) ?_
                    refine lv_iload_n hx hb dL_law_199 rfl (lv_at hl 0 rfl) ?_
                    refine lv_iconst (v := 2) hx hb dL_law_200 (by decide) ?_
                    refine lv_iadd hx hb dL_law_201 ?_
                    refine va_sld hx hb hX hbl hbA hS (hin 2 (by decide)) dL_law_202 ?_
                    rw [ha2]
                    refine lv_aload_n hx hb dL_law_203 rfl (lv_at hl 3 rfl) ?_
                    refine lv_iload_n hx hb dL_law_204 rfl (lv_at hl 0 rfl) ?_
                    refine lv_iconst (v := 3) hx hb dL_law_205 (by decide) ?_
                    refine lv_iadd hx hb dL_law_206 ?_
                    refine va_sld hx hb hX hbl hbA hS (hin 3 (by decide)) dL_law_207 ?_
                    rw [ha3]
                    refine dk_Vi (As := [.int a1, .int a2, .int a3]) (rest := []) ⟨hx, hb, hml, hown, hts⟩ (c_X5_row_0 l g z dkI0 a1 a2 a3 (dkN_sub h37 rfl)) (cwV 3 hts gL_law_X5_row rfl rfl rfl (by decide +kernel) ⟨Nat.le_of_ble_eq_true rfl, Nat.le_of_ble_eq_true rfl⟩) (dk_at0 hW) rfl hK hW hS rfl hl.1 rfl (Nat.le_of_ble_eq_true rfl) dL_law_208 ⟨Nat.le_of_ble_eq_true rfl, Nat.le_of_ble_eq_true rfl⟩ (fun v1 I1 H L hp1 hW hS => ?_)
                    obtain ⟨dv1, hF1, -⟩ := hp1
                    refine lv_aload_n hx hb dL_law_211 rfl (lv_at hl 1 rfl) ?_
                    refine lv_aload_n hx hb dL_law_212 rfl (lv_at hl 3 rfl) ?_
                    refine lv_iload_n hx hb dL_law_213 rfl (lv_at hl 0 rfl) ?_
                    refine lv_iconst (v := 1) hx hb dL_law_214 (by decide) ?_
                    refine lv_iadd hx hb dL_law_215 ?_
                    refine va_sld hx hb hX hbl hbA hS (hin 1 (by decide)) dL_law_216 ?_
                    rw [ha1]
                    refine lv_aload_n hx hb dL_law_217 rfl (lv_at hl 3 rfl) ?_
                    refine lv_iload_n hx hb dL_law_218 rfl (lv_at hl 0 rfl) ?_
                    refine lv_iconst (v := 2) hx hb dL_law_219 (by decide) ?_
                    refine lv_iadd hx hb dL_law_220 ?_
                    refine va_sld hx hb hX hbl hbA hS (hin 2 (by decide)) dL_law_221 ?_
                    rw [ha2]
                    refine lv_aload_n hx hb dL_law_222 rfl (lv_at hl 3 rfl) ?_
                    refine lv_iload_n hx hb dL_law_223 rfl (lv_at hl 0 rfl) ?_
                    refine lv_iconst (v := 3) hx hb dL_law_224 (by decide) ?_
                    refine lv_iadd hx hb dL_law_225 ?_
                    refine va_sld hx hb hX hbl hbA hS (hin 3 (by decide)) dL_law_226 ?_
                    rw [ha3]
                    refine dk_Vi (As := [.int a1, .int a2, .int a3]) (rest := [.int v1]) ⟨hx, hb, hml, hown, hts⟩ (c_X6_row_0 l g z I1 a1 a2 a3 (dkN_sub h37 rfl)) (cwV 3 hts gL_law_X6_row rfl rfl rfl (by decide +kernel) ⟨Nat.le_of_ble_eq_true rfl, Nat.le_of_ble_eq_true rfl⟩) (dk_at340 hW) rfl hK hW hS rfl hl.1 rfl (Nat.le_of_ble_eq_true rfl) dL_law_227 ⟨Nat.le_of_ble_eq_true rfl, Nat.le_of_ble_eq_true rfl⟩ (fun v2 I2 H L hp2 hW hS => ?_)
                    obtain ⟨dv2, hF2, -⟩ := hp2
                    refine lv_icmp_eq (tgt := 1302) hx hb dL_law_230 (by decide) (fun c9 => ?_) (fun c9 => ?_)
                    · exact hend _ _ ls hS hl
                    · exact absurd (Int32.toInt_inj.mp ((dkN_one dv1).trans (dkN_one dv2).symm)) c9

set_option maxHeartbeats 4000000 in
set_option maxRecDepth 100000 in
theorem k_set {p : Program} {e : Env} {s : State} {m : MethodId} {below : List Frame} {meth : Method} {c : Code} (l : Launch) {b L z : Nat} {xs : Nat → Int32} {g : dkG} {Q : State → Prop} {H : Heap} {locs : List Loc} {ls : Array Slot} (hz0 : z = s.heap.size) (hx : p.tables.exec = Jvm.exec) (hb : c.code = code) (hml : c.maxLocals = 4) (hown : s.vm.findClass RL = some m.cls) (hts : ∀ w ∈ wsL_law, w.before #[Value.ref b] s = true) (hX : va_X b L xs s s.heap) (hbl : b < s.heap.size) (hL : L = 7) (hK : dkK g s) (hW : dkW g z dkI0 H) (hS : va_S (dkA z) s.heap H locs) (hl : lv_has ls 4 [(3, .int 0), (2, .ref (z + 340)), (1, .ref (z + 0)), (0, .ref b)]) (hend : ∀ (H : Heap) (locs : List Loc) (ls : Array Slot), va_S (dkA z) s.heap H locs → lv_has ls 4 [(3, .int 0), (2, .ref (z + 340)), (1, .ref (z + 0)), (0, .ref b)] → W p l e room_1 s m #[Value.ref b] below meth c H locs (0 + 1 + 339 + 1 + 13) (0 + 10 + 2701 + 26 + 2055) Q (F0 m 1302 ls [])) : W p l e room_1 s m #[Value.ref b] below meth c H locs (0 + 1 + 339 + 1 + 13) (0 + 10 + 2701 + 26 + 2055) Q (F0 m 235 ls []) := by
  have hbA : ¬ dkA z b := by unfold dkA; omega
  have hin : ∀ k : Nat, k < 7 → vp_in (0 + Int32.ofNat k) L := by
    intro k hk
    rw [hL]
    rcases (by omega : k = 0 ∨ k = 1 ∨ k = 2 ∨ k = 3 ∨ k = 4 ∨ k = 5 ∨ k = 6) with rfl | rfl | rfl | rfl | rfl | rfl | rfl <;> exact vp_in_iff.mpr ⟨by decide, by decide⟩
  obtain ⟨a1, ha1⟩ : ∃ y : Int32, xs (Int32.toNatClampNeg (0 + 1)) = y := ⟨_, rfl⟩
  obtain ⟨a2, ha2⟩ : ∃ y : Int32, xs (Int32.toNatClampNeg (0 + 2)) = y := ⟨_, rfl⟩
  obtain ⟨a3, ha3⟩ : ∃ y : Int32, xs (Int32.toNatClampNeg (0 + 3)) = y := ⟨_, rfl⟩
  rcases dkN_cut (-1) (0) rfl (dkN_top a1) with h42 | h42
  ·
    refine lv_aload_n hx hb dL_law_235 rfl (lv_at hl 2 rfl) ?_
    refine lv_aload_n hx hb dL_law_236 rfl (lv_at hl 3 rfl) ?_
    refine lv_iload_n hx hb dL_law_237 rfl (lv_at hl 0 rfl) ?_
    refine lv_iconst (v := 1) hx hb dL_law_238 (by decide) ?_
    refine lv_iadd hx hb dL_law_239 ?_
    refine va_sld hx hb hX hbl hbA hS (hin 1 (by decide)) dL_law_240 ?_
    rw [ha1]
    refine lv_aload_n hx hb dL_law_241 rfl (lv_at hl 3 rfl) ?_
    refine lv_iload_n hx hb dL_law_242 rfl (lv_at hl 0 rfl) ?_
    refine lv_iconst (v := 2) hx hb dL_law_243 (by decide) ?_
    refine lv_iadd hx hb dL_law_244 ?_
    refine va_sld hx hb hX hbl hbA hS (hin 2 (by decide)) dL_law_245 ?_
    rw [ha2]
    refine lv_aload_n hx hb dL_law_246 rfl (lv_at hl 3 rfl) ?_
    refine lv_iload_n hx hb dL_law_247 rfl (lv_at hl 0 rfl) ?_
    refine lv_iconst (v := 3) hx hb dL_law_248 (by decide) ?_
    refine lv_iadd hx hb dL_law_249 ?_
    refine va_sld hx hb hX hbl hbA hS (hin 3 (by decide)) dL_law_250 ?_
    rw [ha3]
    refine dk_Vi (As := [.int a1, .int a2, .int a3]) (rest := []) ⟨hx, hb, hml, hown, hts⟩ (c_X5_set_0 l g z dkI0 a1 a2 a3 (dkN_sub h42 rfl)) (cwV 3 hts gL_law_X5_set rfl rfl rfl (by decide +kernel) ⟨Nat.le_of_ble_eq_true rfl, Nat.le_of_ble_eq_true rfl⟩) (dk_at0 hW) rfl hK hW hS rfl hl.1 rfl (Nat.le_of_ble_eq_true rfl) dL_law_251 ⟨Nat.le_of_ble_eq_true rfl, Nat.le_of_ble_eq_true rfl⟩ (fun v1 I1 H L hp1 hW hS => ?_)
    obtain ⟨dv1, hF1, -⟩ := hp1
    refine lv_aload_n hx hb dL_law_254 rfl (lv_at hl 1 rfl) ?_
    refine lv_aload_n hx hb dL_law_255 rfl (lv_at hl 3 rfl) ?_
    refine lv_iload_n hx hb dL_law_256 rfl (lv_at hl 0 rfl) ?_
    refine lv_iconst (v := 1) hx hb dL_law_257 (by decide) ?_
    refine lv_iadd hx hb dL_law_258 ?_
    refine va_sld hx hb hX hbl hbA hS (hin 1 (by decide)) dL_law_259 ?_
    rw [ha1]
    refine lv_aload_n hx hb dL_law_260 rfl (lv_at hl 3 rfl) ?_
    refine lv_iload_n hx hb dL_law_261 rfl (lv_at hl 0 rfl) ?_
    refine lv_iconst (v := 2) hx hb dL_law_262 (by decide) ?_
    refine lv_iadd hx hb dL_law_263 ?_
    refine va_sld hx hb hX hbl hbA hS (hin 2 (by decide)) dL_law_264 ?_
    rw [ha2]
    refine lv_aload_n hx hb dL_law_265 rfl (lv_at hl 3 rfl) ?_
    refine lv_iload_n hx hb dL_law_266 rfl (lv_at hl 0 rfl) ?_
    refine lv_iconst (v := 3) hx hb dL_law_267 (by decide) ?_
    refine lv_iadd hx hb dL_law_268 ?_
    refine va_sld hx hb hX hbl hbA hS (hin 3 (by decide)) dL_law_269 ?_
    rw [ha3]
    refine dk_Vi (As := [.int a1, .int a2, .int a3]) (rest := [.int v1]) ⟨hx, hb, hml, hown, hts⟩ (c_X6_set_0 l g z I1 a1 a2 a3 (dkN_sub h42 rfl)) (cwV 3 hts gL_law_X6_set rfl rfl rfl (by decide +kernel) ⟨Nat.le_of_ble_eq_true rfl, Nat.le_of_ble_eq_true rfl⟩) (dk_at340 hW) rfl hK hW hS rfl hl.1 rfl (Nat.le_of_ble_eq_true rfl) dL_law_270 ⟨Nat.le_of_ble_eq_true rfl, Nat.le_of_ble_eq_true rfl⟩ (fun v2 I2 H L hp2 hW hS => ?_)
    obtain ⟨dv2, hF2, -⟩ := hp2
    refine lv_icmp_eq (tgt := 1302) hx hb dL_law_273 (by decide) (fun c9 => ?_) (fun c9 => ?_)
    · exact hend _ _ ls hS hl
    · exact absurd (Int32.toInt_inj.mp ((dkN_one dv1).trans (dkN_one dv2).symm)) c9
  ·
    rcases dkN_cut (7) (8) rfl h42 with h43 | h43
    ·
      refine lv_aload_n hx hb dL_law_235 rfl (lv_at hl 2 rfl) ?_
      refine lv_aload_n hx hb dL_law_236 rfl (lv_at hl 3 rfl) ?_
      refine lv_iload_n hx hb dL_law_237 rfl (lv_at hl 0 rfl) ?_
      refine lv_iconst (v := 1) hx hb dL_law_238 (by decide) ?_
      refine lv_iadd hx hb dL_law_239 ?_
      refine va_sld hx hb hX hbl hbA hS (hin 1 (by decide)) dL_law_240 ?_
      rw [ha1]
      refine lv_aload_n hx hb dL_law_241 rfl (lv_at hl 3 rfl) ?_
      refine lv_iload_n hx hb dL_law_242 rfl (lv_at hl 0 rfl) ?_
      refine lv_iconst (v := 2) hx hb dL_law_243 (by decide) ?_
      refine lv_iadd hx hb dL_law_244 ?_
      refine va_sld hx hb hX hbl hbA hS (hin 2 (by decide)) dL_law_245 ?_
      rw [ha2]
      refine lv_aload_n hx hb dL_law_246 rfl (lv_at hl 3 rfl) ?_
      refine lv_iload_n hx hb dL_law_247 rfl (lv_at hl 0 rfl) ?_
      refine lv_iconst (v := 3) hx hb dL_law_248 (by decide) ?_
      refine lv_iadd hx hb dL_law_249 ?_
      refine va_sld hx hb hX hbl hbA hS (hin 3 (by decide)) dL_law_250 ?_
      rw [ha3]
      refine dk_Vi (As := [.int a1, .int a2, .int a3]) (rest := []) ⟨hx, hb, hml, hown, hts⟩ (c_X5_set_1 l g z dkI0 a1 a2 a3 (dkN_sub h43 rfl) (fun j => dkN_lit (-1) rfl)) (cwV 3 hts gL_law_X5_set rfl rfl rfl (by decide +kernel) ⟨Nat.le_of_ble_eq_true rfl, Nat.le_of_ble_eq_true rfl⟩) (dk_at0 hW) rfl hK hW hS rfl hl.1 rfl (Nat.le_of_ble_eq_true rfl) dL_law_251 ⟨Nat.le_of_ble_eq_true rfl, Nat.le_of_ble_eq_true rfl⟩ (fun v1 I1 H L hp1 hW hS => ?_)
      obtain ⟨dv1, hF1, _, -⟩ := hp1
      refine lv_aload_n hx hb dL_law_254 rfl (lv_at hl 1 rfl) ?_
      refine lv_aload_n hx hb dL_law_255 rfl (lv_at hl 3 rfl) ?_
      refine lv_iload_n hx hb dL_law_256 rfl (lv_at hl 0 rfl) ?_
      refine lv_iconst (v := 1) hx hb dL_law_257 (by decide) ?_
      refine lv_iadd hx hb dL_law_258 ?_
      refine va_sld hx hb hX hbl hbA hS (hin 1 (by decide)) dL_law_259 ?_
      rw [ha1]
      refine lv_aload_n hx hb dL_law_260 rfl (lv_at hl 3 rfl) ?_
      refine lv_iload_n hx hb dL_law_261 rfl (lv_at hl 0 rfl) ?_
      refine lv_iconst (v := 2) hx hb dL_law_262 (by decide) ?_
      refine lv_iadd hx hb dL_law_263 ?_
      refine va_sld hx hb hX hbl hbA hS (hin 2 (by decide)) dL_law_264 ?_
      rw [ha2]
      refine lv_aload_n hx hb dL_law_265 rfl (lv_at hl 3 rfl) ?_
      refine lv_iload_n hx hb dL_law_266 rfl (lv_at hl 0 rfl) ?_
      refine lv_iconst (v := 3) hx hb dL_law_267 (by decide) ?_
      refine lv_iadd hx hb dL_law_268 ?_
      refine va_sld hx hb hX hbl hbA hS (hin 3 (by decide)) dL_law_269 ?_
      rw [ha3]
      refine dk_Vi (As := [.int a1, .int a2, .int a3]) (rest := [.int v1]) ⟨hx, hb, hml, hown, hts⟩ (c_X6_set_1 l g z I1 a1 a2 a3 (dkN_sub h43 rfl) (fun j => by rw [hF1 341 j rfl]; exact dkN_lit (-1000000) rfl)) (cwV 3 hts gL_law_X6_set rfl rfl rfl (by decide +kernel) ⟨Nat.le_of_ble_eq_true rfl, Nat.le_of_ble_eq_true rfl⟩) (dk_at340 hW) rfl hK hW hS rfl hl.1 rfl (Nat.le_of_ble_eq_true rfl) dL_law_270 ⟨Nat.le_of_ble_eq_true rfl, Nat.le_of_ble_eq_true rfl⟩ (fun v2 I2 H L hp2 hW hS => ?_)
      obtain ⟨dv2, hF2, _, -⟩ := hp2
      refine lv_icmp_eq (tgt := 1302) hx hb dL_law_273 (by decide) (fun c9 => ?_) (fun c9 => ?_)
      · exact hend _ _ ls hS hl
      · exact absurd (Int32.toInt_inj.mp ((dkN_one dv1).trans (dkN_one dv2).symm)) c9
    ·
      refine lv_aload_n hx hb dL_law_235 rfl (lv_at hl 2 rfl) ?_
      refine lv_aload_n hx hb dL_law_236 rfl (lv_at hl 3 rfl) ?_
      refine lv_iload_n hx hb dL_law_237 rfl (lv_at hl 0 rfl) ?_
      refine lv_iconst (v := 1) hx hb dL_law_238 (by decide) ?_
      refine lv_iadd hx hb dL_law_239 ?_
      refine va_sld hx hb hX hbl hbA hS (hin 1 (by decide)) dL_law_240 ?_
      rw [ha1]
      refine lv_aload_n hx hb dL_law_241 rfl (lv_at hl 3 rfl) ?_
      refine lv_iload_n hx hb dL_law_242 rfl (lv_at hl 0 rfl) ?_
      refine lv_iconst (v := 2) hx hb dL_law_243 (by decide) ?_
      refine lv_iadd hx hb dL_law_244 ?_
      refine va_sld hx hb hX hbl hbA hS (hin 2 (by decide)) dL_law_245 ?_
      rw [ha2]
      refine lv_aload_n hx hb dL_law_246 rfl (lv_at hl 3 rfl) ?_
      refine lv_iload_n hx hb dL_law_247 rfl (lv_at hl 0 rfl) ?_
      refine lv_iconst (v := 3) hx hb dL_law_248 (by decide) ?_
      refine lv_iadd hx hb dL_law_249 ?_
      refine va_sld hx hb hX hbl hbA hS (hin 3 (by decide)) dL_law_250 ?_
      rw [ha3]
      refine dk_Vi (As := [.int a1, .int a2, .int a3]) (rest := []) ⟨hx, hb, hml, hown, hts⟩ (c_X5_set_0 l g z dkI0 a1 a2 a3 (dkN_sub h43 rfl)) (cwV 3 hts gL_law_X5_set rfl rfl rfl (by decide +kernel) ⟨Nat.le_of_ble_eq_true rfl, Nat.le_of_ble_eq_true rfl⟩) (dk_at0 hW) rfl hK hW hS rfl hl.1 rfl (Nat.le_of_ble_eq_true rfl) dL_law_251 ⟨Nat.le_of_ble_eq_true rfl, Nat.le_of_ble_eq_true rfl⟩ (fun v1 I1 H L hp1 hW hS => ?_)
      obtain ⟨dv1, hF1, -⟩ := hp1
      refine lv_aload_n hx hb dL_law_254 rfl (lv_at hl 1 rfl) ?_
      refine lv_aload_n hx hb dL_law_255 rfl (lv_at hl 3 rfl) ?_
      refine lv_iload_n hx hb dL_law_256 rfl (lv_at hl 0 rfl) ?_
      refine lv_iconst (v := 1) hx hb dL_law_257 (by decide) ?_
      refine lv_iadd hx hb dL_law_258 ?_
      refine va_sld hx hb hX hbl hbA hS (hin 1 (by decide)) dL_law_259 ?_
      rw [ha1]
      refine lv_aload_n hx hb dL_law_260 rfl (lv_at hl 3 rfl) ?_
      refine lv_iload_n hx hb dL_law_261 rfl (lv_at hl 0 rfl) ?_
      refine lv_iconst (v := 2) hx hb dL_law_262 (by decide) ?_
      refine lv_iadd hx hb dL_law_263 ?_
      refine va_sld hx hb hX hbl hbA hS (hin 2 (by decide)) dL_law_264 ?_
      rw [ha2]
      refine lv_aload_n hx hb dL_law_265 rfl (lv_at hl 3 rfl) ?_
      refine lv_iload_n hx hb dL_law_266 rfl (lv_at hl 0 rfl) ?_
      refine lv_iconst (v := 3) hx hb dL_law_267 (by decide) ?_
      refine lv_iadd hx hb dL_law_268 ?_
      refine va_sld hx hb hX hbl hbA hS (hin 3 (by decide)) dL_law_269 ?_
      rw [ha3]
      refine dk_Vi (As := [.int a1, .int a2, .int a3]) (rest := [.int v1]) ⟨hx, hb, hml, hown, hts⟩ (c_X6_set_0 l g z I1 a1 a2 a3 (dkN_sub h43 rfl)) (cwV 3 hts gL_law_X6_set rfl rfl rfl (by decide +kernel) ⟨Nat.le_of_ble_eq_true rfl, Nat.le_of_ble_eq_true rfl⟩) (dk_at340 hW) rfl hK hW hS rfl hl.1 rfl (Nat.le_of_ble_eq_true rfl) dL_law_270 ⟨Nat.le_of_ble_eq_true rfl, Nat.le_of_ble_eq_true rfl⟩ (fun v2 I2 H L hp2 hW hS => ?_)
      obtain ⟨dv2, hF2, -⟩ := hp2
      refine lv_icmp_eq (tgt := 1302) hx hb dL_law_273 (by decide) (fun c9 => ?_) (fun c9 => ?_)
      · exact hend _ _ ls hS hl
      · exact absurd (Int32.toInt_inj.mp ((dkN_one dv1).trans (dkN_one dv2).symm)) c9

set_option maxHeartbeats 4000000 in
set_option maxRecDepth 100000 in
theorem k_copy {p : Program} {e : Env} {s : State} {m : MethodId} {below : List Frame} {meth : Method} {c : Code} (l : Launch) {b L z : Nat} {xs : Nat → Int32} {g : dkG} {Q : State → Prop} {H : Heap} {locs : List Loc} {ls : Array Slot} (hz0 : z = s.heap.size) (hx : p.tables.exec = Jvm.exec) (hb : c.code = code) (hml : c.maxLocals = 4) (hown : s.vm.findClass RL = some m.cls) (hts : ∀ w ∈ wsL_law, w.before #[Value.ref b] s = true) (hX : va_X b L xs s s.heap) (hbl : b < s.heap.size) (hL : L = 7) (hK : dkK g s) (hW : dkW g z dkI0 H) (hS : va_S (dkA z) s.heap H locs) (hl : lv_has ls 4 [(3, .int 0), (2, .ref (z + 340)), (1, .ref (z + 0)), (0, .ref b)]) (hend : ∀ (H : Heap) (locs : List Loc) (ls : Array Slot), va_S (dkA z) s.heap H locs → lv_has ls 4 [(3, .int 0), (2, .ref (z + 340)), (1, .ref (z + 0)), (0, .ref b)] → W p l e room_1 s m #[Value.ref b] below meth c H locs (0 + 1 + 339 + 1 + 13) (0 + 10 + 2701 + 26 + 2055) Q (F0 m 1302 ls [])) : W p l e room_1 s m #[Value.ref b] below meth c H locs (0 + 1 + 339 + 1 + 13) (0 + 10 + 2701 + 26 + 2055) Q (F0 m 278 ls []) := by
  have hbA : ¬ dkA z b := by unfold dkA; omega
  have hin : ∀ k : Nat, k < 7 → vp_in (0 + Int32.ofNat k) L := by
    intro k hk
    rw [hL]
    rcases (by omega : k = 0 ∨ k = 1 ∨ k = 2 ∨ k = 3 ∨ k = 4 ∨ k = 5 ∨ k = 6) with rfl | rfl | rfl | rfl | rfl | rfl | rfl <;> exact vp_in_iff.mpr ⟨by decide, by decide⟩
  obtain ⟨a1, ha1⟩ : ∃ y : Int32, xs (Int32.toNatClampNeg (0 + 1)) = y := ⟨_, rfl⟩
  obtain ⟨a2, ha2⟩ : ∃ y : Int32, xs (Int32.toNatClampNeg (0 + 2)) = y := ⟨_, rfl⟩
  obtain ⟨a3, ha3⟩ : ∃ y : Int32, xs (Int32.toNatClampNeg (0 + 3)) = y := ⟨_, rfl⟩
  obtain ⟨a4, ha4⟩ : ∃ y : Int32, xs (Int32.toNatClampNeg (0 + 4)) = y := ⟨_, rfl⟩
  obtain ⟨a5, ha5⟩ : ∃ y : Int32, xs (Int32.toNatClampNeg (0 + 5)) = y := ⟨_, rfl⟩
  rcases dkN_cut (-1) (0) rfl (dkN_top a1) with h44 | h44
  ·
    refine lv_aload_n hx hb dL_law_278 rfl (lv_at hl 2 rfl) ?_
    refine lv_aload_n hx hb dL_law_279 rfl (lv_at hl 3 rfl) ?_
    refine lv_iload_n hx hb dL_law_280 rfl (lv_at hl 0 rfl) ?_
    refine lv_iconst (v := 1) hx hb dL_law_281 (by decide) ?_
    refine lv_iadd hx hb dL_law_282 ?_
    refine va_sld hx hb hX hbl hbA hS (hin 1 (by decide)) dL_law_283 ?_
    rw [ha1]
    refine lv_aload_n hx hb dL_law_284 rfl (lv_at hl 3 rfl) ?_
    refine lv_iload_n hx hb dL_law_285 rfl (lv_at hl 0 rfl) ?_
    refine lv_iconst (v := 2) hx hb dL_law_286 (by decide) ?_
    refine lv_iadd hx hb dL_law_287 ?_
    refine va_sld hx hb hX hbl hbA hS (hin 2 (by decide)) dL_law_288 ?_
    rw [ha2]
    refine lv_aload_n hx hb dL_law_289 rfl (lv_at hl 3 rfl) ?_
    refine lv_iload_n hx hb dL_law_290 rfl (lv_at hl 0 rfl) ?_
    refine lv_iconst (v := 3) hx hb dL_law_291 (by decide) ?_
    refine lv_iadd hx hb dL_law_292 ?_
    refine va_sld hx hb hX hbl hbA hS (hin 3 (by decide)) dL_law_293 ?_
    rw [ha3]
    refine lv_aload_n hx hb dL_law_294 rfl (lv_at hl 3 rfl) ?_
    refine lv_iload_n hx hb dL_law_295 rfl (lv_at hl 0 rfl) ?_
    refine lv_iconst (v := 4) hx hb dL_law_296 (by decide) ?_
    refine lv_iadd hx hb dL_law_297 ?_
    refine va_sld hx hb hX hbl hbA hS (hin 4 (by decide)) dL_law_298 ?_
    rw [ha4]
    refine lv_aload_n hx hb dL_law_299 rfl (lv_at hl 3 rfl) ?_
    refine lv_iload_n hx hb dL_law_300 rfl (lv_at hl 0 rfl) ?_
    refine lv_iconst (v := 5) hx hb dL_law_301 (by decide) ?_
    refine lv_iadd hx hb dL_law_302 ?_
    refine va_sld hx hb hX hbl hbA hS (hin 5 (by decide)) dL_law_303 ?_
    rw [ha5]
    refine dk_Vi (As := [.int a1, .int a2, .int a3, .int a4, .int a5]) (rest := []) ⟨hx, hb, hml, hown, hts⟩ (c_X5_copy_0 l g z dkI0 a1 a2 a3 a4 a5 (dkN_sub h44 rfl)) (cwV 5 hts gL_law_X5_copy rfl rfl rfl (by decide +kernel) ⟨Nat.le_of_ble_eq_true rfl, Nat.le_of_ble_eq_true rfl⟩) (dk_at0 hW) rfl hK hW hS rfl hl.1 rfl (Nat.le_of_ble_eq_true rfl) dL_law_304 ⟨Nat.le_of_ble_eq_true rfl, Nat.le_of_ble_eq_true rfl⟩ (fun v1 I1 H L hp1 hW hS => ?_)
    obtain ⟨dv1, hF1, -⟩ := hp1
    refine lv_aload_n hx hb dL_law_307 rfl (lv_at hl 1 rfl) ?_
    refine lv_aload_n hx hb dL_law_308 rfl (lv_at hl 3 rfl) ?_
    refine lv_iload_n hx hb dL_law_309 rfl (lv_at hl 0 rfl) ?_
    refine lv_iconst (v := 1) hx hb dL_law_310 (by decide) ?_
    refine lv_iadd hx hb dL_law_311 ?_
    refine va_sld hx hb hX hbl hbA hS (hin 1 (by decide)) dL_law_312 ?_
    rw [ha1]
    refine lv_aload_n hx hb dL_law_313 rfl (lv_at hl 3 rfl) ?_
    refine lv_iload_n hx hb dL_law_314 rfl (lv_at hl 0 rfl) ?_
    refine lv_iconst (v := 2) hx hb dL_law_315 (by decide) ?_
    refine lv_iadd hx hb dL_law_316 ?_
    refine va_sld hx hb hX hbl hbA hS (hin 2 (by decide)) dL_law_317 ?_
    rw [ha2]
    refine lv_aload_n hx hb dL_law_318 rfl (lv_at hl 3 rfl) ?_
    refine lv_iload_n hx hb dL_law_319 rfl (lv_at hl 0 rfl) ?_
    refine lv_iconst (v := 3) hx hb dL_law_320 (by decide) ?_
    refine lv_iadd hx hb dL_law_321 ?_
    refine va_sld hx hb hX hbl hbA hS (hin 3 (by decide)) dL_law_322 ?_
    rw [ha3]
    refine lv_aload_n hx hb dL_law_323 rfl (lv_at hl 3 rfl) ?_
    refine lv_iload_n hx hb dL_law_324 rfl (lv_at hl 0 rfl) ?_
    refine lv_iconst (v := 4) hx hb dL_law_325 (by decide) ?_
    refine lv_iadd hx hb dL_law_326 ?_
    refine va_sld hx hb hX hbl hbA hS (hin 4 (by decide)) dL_law_327 ?_
    rw [ha4]
    refine lv_aload_n hx hb dL_law_328 rfl (lv_at hl 3 rfl) ?_
    refine lv_iload_n hx hb dL_law_329 rfl (lv_at hl 0 rfl) ?_
    refine lv_iconst (v := 5) hx hb dL_law_330 (by decide) ?_
    refine lv_iadd hx hb dL_law_331 ?_
    refine va_sld hx hb hX hbl hbA hS (hin 5 (by decide)) dL_law_332 ?_
    rw [ha5]
    refine dk_Vi (As := [.int a1, .int a2, .int a3, .int a4, .int a5]) (rest := [.int v1]) ⟨hx, hb, hml, hown, hts⟩ (c_X6_copy_0 l g z I1 a1 a2 a3 a4 a5 (dkN_sub h44 rfl)) (cwV 5 hts gL_law_X6_copy rfl rfl rfl (by decide +kernel) ⟨Nat.le_of_ble_eq_true rfl, Nat.le_of_ble_eq_true rfl⟩) (dk_at340 hW) rfl hK hW hS rfl hl.1 rfl (Nat.le_of_ble_eq_true rfl) dL_law_333 ⟨Nat.le_of_ble_eq_true rfl, Nat.le_of_ble_eq_true rfl⟩ (fun v2 I2 H L hp2 hW hS => ?_)
    obtain ⟨dv2, hF2, -⟩ := hp2
    refine lv_icmp_eq (tgt := 1302) hx hb dL_law_336 (by decide) (fun c9 => ?_) (fun c9 => ?_)
    · exact hend _ _ ls hS hl
    · exact absurd (Int32.toInt_inj.mp ((dkN_one dv1).trans (dkN_one dv2).symm)) c9
  ·
    rcases dkN_cut (7) (8) rfl h44 with h45 | h45
    ·
      rcases dkN_cut (-1) (0) rfl (dkN_top a3) with h46 | h46
      ·
        refine lv_aload_n hx hb dL_law_278 rfl (lv_at hl 2 rfl) ?_
        refine lv_aload_n hx hb dL_law_279 rfl (lv_at hl 3 rfl) ?_
        refine lv_iload_n hx hb dL_law_280 rfl (lv_at hl 0 rfl) ?_
        refine lv_iconst (v := 1) hx hb dL_law_281 (by decide) ?_
        refine lv_iadd hx hb dL_law_282 ?_
        refine va_sld hx hb hX hbl hbA hS (hin 1 (by decide)) dL_law_283 ?_
        rw [ha1]
        refine lv_aload_n hx hb dL_law_284 rfl (lv_at hl 3 rfl) ?_
        refine lv_iload_n hx hb dL_law_285 rfl (lv_at hl 0 rfl) ?_
        refine lv_iconst (v := 2) hx hb dL_law_286 (by decide) ?_
        refine lv_iadd hx hb dL_law_287 ?_
        refine va_sld hx hb hX hbl hbA hS (hin 2 (by decide)) dL_law_288 ?_
        rw [ha2]
        refine lv_aload_n hx hb dL_law_289 rfl (lv_at hl 3 rfl) ?_
        refine lv_iload_n hx hb dL_law_290 rfl (lv_at hl 0 rfl) ?_
        refine lv_iconst (v := 3) hx hb dL_law_291 (by decide) ?_
        refine lv_iadd hx hb dL_law_292 ?_
        refine va_sld hx hb hX hbl hbA hS (hin 3 (by decide)) dL_law_293 ?_
        rw [ha3]
        refine lv_aload_n hx hb dL_law_294 rfl (lv_at hl 3 rfl) ?_
        refine lv_iload_n hx hb dL_law_295 rfl (lv_at hl 0 rfl) ?_
        refine lv_iconst (v := 4) hx hb dL_law_296 (by decide) ?_
        refine lv_iadd hx hb dL_law_297 ?_
        refine va_sld hx hb hX hbl hbA hS (hin 4 (by decide)) dL_law_298 ?_
        rw [ha4]
        refine lv_aload_n hx hb dL_law_299 rfl (lv_at hl 3 rfl) ?_
        refine lv_iload_n hx hb dL_law_300 rfl (lv_at hl 0 rfl) ?_
        refine lv_iconst (v := 5) hx hb dL_law_301 (by decide) ?_
        refine lv_iadd hx hb dL_law_302 ?_
        refine va_sld hx hb hX hbl hbA hS (hin 5 (by decide)) dL_law_303 ?_
        rw [ha5]
        refine dk_Vi (As := [.int a1, .int a2, .int a3, .int a4, .int a5]) (rest := []) ⟨hx, hb, hml, hown, hts⟩ (c_X5_copy_1 l g z dkI0 a1 a2 a3 a4 a5 (dkN_sub h45 rfl) (dkN_sub h46 rfl)) (cwV 5 hts gL_law_X5_copy rfl rfl rfl (by decide +kernel) ⟨Nat.le_of_ble_eq_true rfl, Nat.le_of_ble_eq_true rfl⟩) (dk_at0 hW) rfl hK hW hS rfl hl.1 rfl (Nat.le_of_ble_eq_true rfl) dL_law_304 ⟨Nat.le_of_ble_eq_true rfl, Nat.le_of_ble_eq_true rfl⟩ (fun v1 I1 H L hp1 hW hS => ?_)
        obtain ⟨dv1, hF1, -⟩ := hp1
        refine lv_aload_n hx hb dL_law_307 rfl (lv_at hl 1 rfl) ?_
        refine lv_aload_n hx hb dL_law_308 rfl (lv_at hl 3 rfl) ?_
        refine lv_iload_n hx hb dL_law_309 rfl (lv_at hl 0 rfl) ?_
        refine lv_iconst (v := 1) hx hb dL_law_310 (by decide) ?_
        refine lv_iadd hx hb dL_law_311 ?_
        refine va_sld hx hb hX hbl hbA hS (hin 1 (by decide)) dL_law_312 ?_
        rw [ha1]
        refine lv_aload_n hx hb dL_law_313 rfl (lv_at hl 3 rfl) ?_
        refine lv_iload_n hx hb dL_law_314 rfl (lv_at hl 0 rfl) ?_
        refine lv_iconst (v := 2) hx hb dL_law_315 (by decide) ?_
        refine lv_iadd hx hb dL_law_316 ?_
        refine va_sld hx hb hX hbl hbA hS (hin 2 (by decide)) dL_law_317 ?_
        rw [ha2]
        refine lv_aload_n hx hb dL_law_318 rfl (lv_at hl 3 rfl) ?_
        refine lv_iload_n hx hb dL_law_319 rfl (lv_at hl 0 rfl) ?_
        refine lv_iconst (v := 3) hx hb dL_law_320 (by decide) ?_
        refine lv_iadd hx hb dL_law_321 ?_
        refine va_sld hx hb hX hbl hbA hS (hin 3 (by decide)) dL_law_322 ?_
        rw [ha3]
        refine lv_aload_n hx hb dL_law_323 rfl (lv_at hl 3 rfl) ?_
        refine lv_iload_n hx hb dL_law_324 rfl (lv_at hl 0 rfl) ?_
        refine lv_iconst (v := 4) hx hb dL_law_325 (by decide) ?_
        refine lv_iadd hx hb dL_law_326 ?_
        refine va_sld hx hb hX hbl hbA hS (hin 4 (by decide)) dL_law_327 ?_
        rw [ha4]
        refine lv_aload_n hx hb dL_law_328 rfl (lv_at hl 3 rfl) ?_
        refine lv_iload_n hx hb dL_law_329 rfl (lv_at hl 0 rfl) ?_
        refine lv_iconst (v := 5) hx hb dL_law_330 (by decide) ?_
        refine lv_iadd hx hb dL_law_331 ?_
        refine va_sld hx hb hX hbl hbA hS (hin 5 (by decide)) dL_law_332 ?_
        rw [ha5]
        refine dk_Vi (As := [.int a1, .int a2, .int a3, .int a4, .int a5]) (rest := [.int v1]) ⟨hx, hb, hml, hown, hts⟩ (c_X6_copy_1 l g z I1 a1 a2 a3 a4 a5 (dkN_sub h45 rfl) (dkN_sub h46 rfl)) (cwV 5 hts gL_law_X6_copy rfl rfl rfl (by decide +kernel) ⟨Nat.le_of_ble_eq_true rfl, Nat.le_of_ble_eq_true rfl⟩) (dk_at340 hW) rfl hK hW hS rfl hl.1 rfl (Nat.le_of_ble_eq_true rfl) dL_law_333 ⟨Nat.le_of_ble_eq_true rfl, Nat.le_of_ble_eq_true rfl⟩ (fun v2 I2 H L hp2 hW hS => ?_)
        obtain ⟨dv2, hF2, -⟩ := hp2
        refine lv_icmp_eq (tgt := 1302) hx hb dL_law_336 (by decide) (fun c9 => ?_) (fun c9 => ?_)
        · exact hend _ _ ls hS hl
        · exact absurd (Int32.toInt_inj.mp ((dkN_one dv1).trans (dkN_one dv2).symm)) c9
      ·
        rcases dkN_cut (7) (8) rfl h46 with h47 | h47
        ·
          refine lv_aload_n hx hb dL_law_278 rfl (lv_at hl 2 rfl) ?_
          refine lv_aload_n hx hb dL_law_279 rfl (lv_at hl 3 rfl) ?_
          refine lv_iload_n hx hb dL_law_280 rfl (lv_at hl 0 rfl) ?_
          refine lv_iconst (v := 1) hx hb dL_law_281 (by decide) ?_
          refine lv_iadd hx hb dL_law_282 ?_
          refine va_sld hx hb hX hbl hbA hS (hin 1 (by decide)) dL_law_283 ?_
          rw [ha1]
          refine lv_aload_n hx hb dL_law_284 rfl (lv_at hl 3 rfl) ?_
          refine lv_iload_n hx hb dL_law_285 rfl (lv_at hl 0 rfl) ?_
          refine lv_iconst (v := 2) hx hb dL_law_286 (by decide) ?_
          refine lv_iadd hx hb dL_law_287 ?_
          refine va_sld hx hb hX hbl hbA hS (hin 2 (by decide)) dL_law_288 ?_
          rw [ha2]
          refine lv_aload_n hx hb dL_law_289 rfl (lv_at hl 3 rfl) ?_
          refine lv_iload_n hx hb dL_law_290 rfl (lv_at hl 0 rfl) ?_
          refine lv_iconst (v := 3) hx hb dL_law_291 (by decide) ?_
          refine lv_iadd hx hb dL_law_292 ?_
          refine va_sld hx hb hX hbl hbA hS (hin 3 (by decide)) dL_law_293 ?_
          rw [ha3]
          refine lv_aload_n hx hb dL_law_294 rfl (lv_at hl 3 rfl) ?_
          refine lv_iload_n hx hb dL_law_295 rfl (lv_at hl 0 rfl) ?_
          refine lv_iconst (v := 4) hx hb dL_law_296 (by decide) ?_
          refine lv_iadd hx hb dL_law_297 ?_
          refine va_sld hx hb hX hbl hbA hS (hin 4 (by decide)) dL_law_298 ?_
          rw [ha4]
          refine lv_aload_n hx hb dL_law_299 rfl (lv_at hl 3 rfl) ?_
          refine lv_iload_n hx hb dL_law_300 rfl (lv_at hl 0 rfl) ?_
          refine lv_iconst (v := 5) hx hb dL_law_301 (by decide) ?_
          refine lv_iadd hx hb dL_law_302 ?_
          refine va_sld hx hb hX hbl hbA hS (hin 5 (by decide)) dL_law_303 ?_
          rw [ha5]
          refine dk_Vi (As := [.int a1, .int a2, .int a3, .int a4, .int a5]) (rest := []) ⟨hx, hb, hml, hown, hts⟩ (c_X5_copy_2 l g z dkI0 a1 a2 a3 a4 a5 (dkN_sub h45 rfl) (dkN_sub h47 rfl) (dkN_lit (0) rfl) (fun j => dkN_lit (-1) rfl)) (cwV 5 hts gL_law_X5_copy rfl rfl rfl (by decide +kernel) ⟨Nat.le_of_ble_eq_true rfl, Nat.le_of_ble_eq_true rfl⟩) (dk_at0 hW) rfl hK hW hS rfl hl.1 rfl (Nat.le_of_ble_eq_true rfl) dL_law_304 ⟨Nat.le_of_ble_eq_true rfl, Nat.le_of_ble_eq_true rfl⟩ (fun v1 I1 H L hp1 hW hS => ?_)
          obtain ⟨dv1, hF1, _, -⟩ := hp1
          refine lv_aload_n hx hb dL_law_307 rfl (lv_at hl 1 rfl) ?_
          refine lv_aload_n hx hb dL_law_308 rfl (lv_at hl 3 rfl) ?_
          refine lv_iload_n hx hb dL_law_309 rfl (lv_at hl 0 rfl) ?_
          refine lv_iconst (v := 1) hx hb dL_law_310 (by decide) ?_
          refine lv_iadd hx hb dL_law_311 ?_
          refine va_sld hx hb hX hbl hbA hS (hin 1 (by decide)) dL_law_312 ?_
          rw [ha1]
          refine lv_aload_n hx hb dL_law_313 rfl (lv_at hl 3 rfl) ?_
          refine lv_iload_n hx hb dL_law_314 rfl (lv_at hl 0 rfl) ?_
          refine lv_iconst (v := 2) hx hb dL_law_315 (by decide) ?_
          refine lv_iadd hx hb dL_law_316 ?_
          refine va_sld hx hb hX hbl hbA hS (hin 2 (by decide)) dL_law_317 ?_
          rw [ha2]
          refine lv_aload_n hx hb dL_law_318 rfl (lv_at hl 3 rfl) ?_
          refine lv_iload_n hx hb dL_law_319 rfl (lv_at hl 0 rfl) ?_
          refine lv_iconst (v := 3) hx hb dL_law_320 (by decide) ?_
          refine lv_iadd hx hb dL_law_321 ?_
          refine va_sld hx hb hX hbl hbA hS (hin 3 (by decide)) dL_law_322 ?_
          rw [ha3]
          refine lv_aload_n hx hb dL_law_323 rfl (lv_at hl 3 rfl) ?_
          refine lv_iload_n hx hb dL_law_324 rfl (lv_at hl 0 rfl) ?_
          refine lv_iconst (v := 4) hx hb dL_law_325 (by decide) ?_
          refine lv_iadd hx hb dL_law_326 ?_
          refine va_sld hx hb hX hbl hbA hS (hin 4 (by decide)) dL_law_327 ?_
          rw [ha4]
          refine lv_aload_n hx hb dL_law_328 rfl (lv_at hl 3 rfl) ?_
          refine lv_iload_n hx hb dL_law_329 rfl (lv_at hl 0 rfl) ?_
          refine lv_iconst (v := 5) hx hb dL_law_330 (by decide) ?_
          refine lv_iadd hx hb dL_law_331 ?_
          refine va_sld hx hb hX hbl hbA hS (hin 5 (by decide)) dL_law_332 ?_
          rw [ha5]
          refine dk_Vi (As := [.int a1, .int a2, .int a3, .int a4, .int a5]) (rest := [.int v1]) ⟨hx, hb, hml, hown, hts⟩ (c_X6_copy_2 l g z I1 a1 a2 a3 a4 a5 (dkN_sub h45 rfl) (dkN_sub h47 rfl) (by rw [hF1 340 4 rfl]; exact dkN_lit (0) rfl) (fun j => by rw [hF1 341 j rfl]; exact dkN_lit (-1000000) rfl)) (cwV 5 hts gL_law_X6_copy rfl rfl rfl (by decide +kernel) ⟨Nat.le_of_ble_eq_true rfl, Nat.le_of_ble_eq_true rfl⟩) (dk_at340 hW) rfl hK hW hS rfl hl.1 rfl (Nat.le_of_ble_eq_true rfl) dL_law_333 ⟨Nat.le_of_ble_eq_true rfl, Nat.le_of_ble_eq_true rfl⟩ (fun v2 I2 H L hp2 hW hS => ?_)
          obtain ⟨dv2, hF2, _, -⟩ := hp2
          refine lv_icmp_eq (tgt := 1302) hx hb dL_law_336 (by decide) (fun c9 => ?_) (fun c9 => ?_)
          · exact hend _ _ ls hS hl
          · exact absurd (Int32.toInt_inj.mp ((dkN_one dv1).trans (dkN_one dv2).symm)) c9
        ·
          refine lv_aload_n hx hb dL_law_278 rfl (lv_at hl 2 rfl) ?_
          refine lv_aload_n hx hb dL_law_279 rfl (lv_at hl 3 rfl) ?_
          refine lv_iload_n hx hb dL_law_280 rfl (lv_at hl 0 rfl) ?_
          refine lv_iconst (v := 1) hx hb dL_law_281 (by decide) ?_
          refine lv_iadd hx hb dL_law_282 ?_
          refine va_sld hx hb hX hbl hbA hS (hin 1 (by decide)) dL_law_283 ?_
          rw [ha1]
          refine lv_aload_n hx hb dL_law_284 rfl (lv_at hl 3 rfl) ?_
          refine lv_iload_n hx hb dL_law_285 rfl (lv_at hl 0 rfl) ?_
          refine lv_iconst (v := 2) hx hb dL_law_286 (by decide) ?_
          refine lv_iadd hx hb dL_law_287 ?_
          refine va_sld hx hb hX hbl hbA hS (hin 2 (by decide)) dL_law_288 ?_
          rw [ha2]
          refine lv_aload_n hx hb dL_law_289 rfl (lv_at hl 3 rfl) ?_
          refine lv_iload_n hx hb dL_law_290 rfl (lv_at hl 0 rfl) ?_
          refine lv_iconst (v := 3) hx hb dL_law_291 (by decide) ?_
          refine lv_iadd hx hb dL_law_292 ?_
          refine va_sld hx hb hX hbl hbA hS (hin 3 (by decide)) dL_law_293 ?_
          rw [ha3]
          refine lv_aload_n hx hb dL_law_294 rfl (lv_at hl 3 rfl) ?_
          refine lv_iload_n hx hb dL_law_295 rfl (lv_at hl 0 rfl) ?_
          refine lv_iconst (v := 4) hx hb dL_law_296 (by decide) ?_
          refine lv_iadd hx hb dL_law_297 ?_
          refine va_sld hx hb hX hbl hbA hS (hin 4 (by decide)) dL_law_298 ?_
          rw [ha4]
          refine lv_aload_n hx hb dL_law_299 rfl (lv_at hl 3 rfl) ?_
          refine lv_iload_n hx hb dL_law_300 rfl (lv_at hl 0 rfl) ?_
          refine lv_iconst (v := 5) hx hb dL_law_301 (by decide) ?_
          refine lv_iadd hx hb dL_law_302 ?_
          refine va_sld hx hb hX hbl hbA hS (hin 5 (by decide)) dL_law_303 ?_
          rw [ha5]
          refine dk_Vi (As := [.int a1, .int a2, .int a3, .int a4, .int a5]) (rest := []) ⟨hx, hb, hml, hown, hts⟩ (c_X5_copy_1 l g z dkI0 a1 a2 a3 a4 a5 (dkN_sub h45 rfl) (dkN_sub h47 rfl)) (cwV 5 hts gL_law_X5_copy rfl rfl rfl (by decide +kernel) ⟨Nat.le_of_ble_eq_true rfl, Nat.le_of_ble_eq_true rfl⟩) (dk_at0 hW) rfl hK hW hS rfl hl.1 rfl (Nat.le_of_ble_eq_true rfl) dL_law_304 ⟨Nat.le_of_ble_eq_true rfl, Nat.le_of_ble_eq_true rfl⟩ (fun v1 I1 H L hp1 hW hS => ?_)
          obtain ⟨dv1, hF1, -⟩ := hp1
          refine lv_aload_n hx hb dL_law_307 rfl (lv_at hl 1 rfl) ?_
          refine lv_aload_n hx hb dL_law_308 rfl (lv_at hl 3 rfl) ?_
          refine lv_iload_n hx hb dL_law_309 rfl (lv_at hl 0 rfl) ?_
          refine lv_iconst (v := 1) hx hb dL_law_310 (by decide) ?_
          refine lv_iadd hx hb dL_law_311 ?_
          refine va_sld hx hb hX hbl hbA hS (hin 1 (by decide)) dL_law_312 ?_
          rw [ha1]
          refine lv_aload_n hx hb dL_law_313 rfl (lv_at hl 3 rfl) ?_
          refine lv_iload_n hx hb dL_law_314 rfl (lv_at hl 0 rfl) ?_
          refine lv_iconst (v := 2) hx hb dL_law_315 (by decide) ?_
          refine lv_iadd hx hb dL_law_316 ?_
          refine va_sld hx hb hX hbl hbA hS (hin 2 (by decide)) dL_law_317 ?_
          rw [ha2]
          refine lv_aload_n hx hb dL_law_318 rfl (lv_at hl 3 rfl) ?_
          refine lv_iload_n hx hb dL_law_319 rfl (lv_at hl 0 rfl) ?_
          refine lv_iconst (v := 3) hx hb dL_law_320 (by decide) ?_
          refine lv_iadd hx hb dL_law_321 ?_
          refine va_sld hx hb hX hbl hbA hS (hin 3 (by decide)) dL_law_322 ?_
          rw [ha3]
          refine lv_aload_n hx hb dL_law_323 rfl (lv_at hl 3 rfl) ?_
          refine lv_iload_n hx hb dL_law_324 rfl (lv_at hl 0 rfl) ?_
          refine lv_iconst (v := 4) hx hb dL_law_325 (by decide) ?_
          refine lv_iadd hx hb dL_law_326 ?_
          refine va_sld hx hb hX hbl hbA hS (hin 4 (by decide)) dL_law_327 ?_
          rw [ha4]
          refine lv_aload_n hx hb dL_law_328 rfl (lv_at hl 3 rfl) ?_
          refine lv_iload_n hx hb dL_law_329 rfl (lv_at hl 0 rfl) ?_
          refine lv_iconst (v := 5) hx hb dL_law_330 (by decide) ?_
          refine lv_iadd hx hb dL_law_331 ?_
          refine va_sld hx hb hX hbl hbA hS (hin 5 (by decide)) dL_law_332 ?_
          rw [ha5]
          refine dk_Vi (As := [.int a1, .int a2, .int a3, .int a4, .int a5]) (rest := [.int v1]) ⟨hx, hb, hml, hown, hts⟩ (c_X6_copy_1 l g z I1 a1 a2 a3 a4 a5 (dkN_sub h45 rfl) (dkN_sub h47 rfl)) (cwV 5 hts gL_law_X6_copy rfl rfl rfl (by decide +kernel) ⟨Nat.le_of_ble_eq_true rfl, Nat.le_of_ble_eq_true rfl⟩) (dk_at340 hW) rfl hK hW hS rfl hl.1 rfl (Nat.le_of_ble_eq_true rfl) dL_law_333 ⟨Nat.le_of_ble_eq_true rfl, Nat.le_of_ble_eq_true rfl⟩ (fun v2 I2 H L hp2 hW hS => ?_)
          obtain ⟨dv2, hF2, -⟩ := hp2
          refine lv_icmp_eq (tgt := 1302) hx hb dL_law_336 (by decide) (fun c9 => ?_) (fun c9 => ?_)
          · exact hend _ _ ls hS hl
          · exact absurd (Int32.toInt_inj.mp ((dkN_one dv1).trans (dkN_one dv2).symm)) c9
    ·
      refine lv_aload_n hx hb dL_law_278 rfl (lv_at hl 2 rfl) ?_
      refine lv_aload_n hx hb dL_law_279 rfl (lv_at hl 3 rfl) ?_
      refine lv_iload_n hx hb dL_law_280 rfl (lv_at hl 0 rfl) ?_
      refine lv_iconst (v := 1) hx hb dL_law_281 (by decide) ?_
      refine lv_iadd hx hb dL_law_282 ?_
      refine va_sld hx hb hX hbl hbA hS (hin 1 (by decide)) dL_law_283 ?_
      rw [ha1]
      refine lv_aload_n hx hb dL_law_284 rfl (lv_at hl 3 rfl) ?_
      refine lv_iload_n hx hb dL_law_285 rfl (lv_at hl 0 rfl) ?_
      refine lv_iconst (v := 2) hx hb dL_law_286 (by decide) ?_
      refine lv_iadd hx hb dL_law_287 ?_
      refine va_sld hx hb hX hbl hbA hS (hin 2 (by decide)) dL_law_288 ?_
      rw [ha2]
      refine lv_aload_n hx hb dL_law_289 rfl (lv_at hl 3 rfl) ?_
      refine lv_iload_n hx hb dL_law_290 rfl (lv_at hl 0 rfl) ?_
      refine lv_iconst (v := 3) hx hb dL_law_291 (by decide) ?_
      refine lv_iadd hx hb dL_law_292 ?_
      refine va_sld hx hb hX hbl hbA hS (hin 3 (by decide)) dL_law_293 ?_
      rw [ha3]
      refine lv_aload_n hx hb dL_law_294 rfl (lv_at hl 3 rfl) ?_
      refine lv_iload_n hx hb dL_law_295 rfl (lv_at hl 0 rfl) ?_
      refine lv_iconst (v := 4) hx hb dL_law_296 (by decide) ?_
      refine lv_iadd hx hb dL_law_297 ?_
      refine va_sld hx hb hX hbl hbA hS (hin 4 (by decide)) dL_law_298 ?_
      rw [ha4]
      refine lv_aload_n hx hb dL_law_299 rfl (lv_at hl 3 rfl) ?_
      refine lv_iload_n hx hb dL_law_300 rfl (lv_at hl 0 rfl) ?_
      refine lv_iconst (v := 5) hx hb dL_law_301 (by decide) ?_
      refine lv_iadd hx hb dL_law_302 ?_
      refine va_sld hx hb hX hbl hbA hS (hin 5 (by decide)) dL_law_303 ?_
      rw [ha5]
      refine dk_Vi (As := [.int a1, .int a2, .int a3, .int a4, .int a5]) (rest := []) ⟨hx, hb, hml, hown, hts⟩ (c_X5_copy_0 l g z dkI0 a1 a2 a3 a4 a5 (dkN_sub h45 rfl)) (cwV 5 hts gL_law_X5_copy rfl rfl rfl (by decide +kernel) ⟨Nat.le_of_ble_eq_true rfl, Nat.le_of_ble_eq_true rfl⟩) (dk_at0 hW) rfl hK hW hS rfl hl.1 rfl (Nat.le_of_ble_eq_true rfl) dL_law_304 ⟨Nat.le_of_ble_eq_true rfl, Nat.le_of_ble_eq_true rfl⟩ (fun v1 I1 H L hp1 hW hS => ?_)
      obtain ⟨dv1, hF1, -⟩ := hp1
      refine lv_aload_n hx hb dL_law_307 rfl (lv_at hl 1 rfl) ?_
      refine lv_aload_n hx hb dL_law_308 rfl (lv_at hl 3 rfl) ?_
      refine lv_iload_n hx hb dL_law_309 rfl (lv_at hl 0 rfl) ?_
      refine lv_iconst (v := 1) hx hb dL_law_310 (by decide) ?_
      refine lv_iadd hx hb dL_law_311 ?_
      refine va_sld hx hb hX hbl hbA hS (hin 1 (by decide)) dL_law_312 ?_
      rw [ha1]
      refine lv_aload_n hx hb dL_law_313 rfl (lv_at hl 3 rfl) ?_
      refine lv_iload_n hx hb dL_law_314 rfl (lv_at hl 0 rfl) ?_
      refine lv_iconst (v := 2) hx hb dL_law_315 (by decide) ?_
      refine lv_iadd hx hb dL_law_316 ?_
      refine va_sld hx hb hX hbl hbA hS (hin 2 (by decide)) dL_law_317 ?_
      rw [ha2]
      refine lv_aload_n hx hb dL_law_318 rfl (lv_at hl 3 rfl) ?_
      refine lv_iload_n hx hb dL_law_319 rfl (lv_at hl 0 rfl) ?_
      refine lv_iconst (v := 3) hx hb dL_law_320 (by decide) ?_
      refine lv_iadd hx hb dL_law_321 ?_
      refine va_sld hx hb hX hbl hbA hS (hin 3 (by decide)) dL_law_322 ?_
      rw [ha3]
      refine lv_aload_n hx hb dL_law_323 rfl (lv_at hl 3 rfl) ?_
      refine lv_iload_n hx hb dL_law_324 rfl (lv_at hl 0 rfl) ?_
      refine lv_iconst (v := 4) hx hb dL_law_325 (by decide) ?_
      refine lv_iadd hx hb dL_law_326 ?_
      refine va_sld hx hb hX hbl hbA hS (hin 4 (by decide)) dL_law_327 ?_
      rw [ha4]
      refine lv_aload_n hx hb dL_law_328 rfl (lv_at hl 3 rfl) ?_
      refine lv_iload_n hx hb dL_law_329 rfl (lv_at hl 0 rfl) ?_
      refine lv_iconst (v := 5) hx hb dL_law_330 (by decide) ?_
      refine lv_iadd hx hb dL_law_331 ?_
      refine va_sld hx hb hX hbl hbA hS (hin 5 (by decide)) dL_law_332 ?_
      rw [ha5]
      refine dk_Vi (As := [.int a1, .int a2, .int a3, .int a4, .int a5]) (rest := [.int v1]) ⟨hx, hb, hml, hown, hts⟩ (c_X6_copy_0 l g z I1 a1 a2 a3 a4 a5 (dkN_sub h45 rfl)) (cwV 5 hts gL_law_X6_copy rfl rfl rfl (by decide +kernel) ⟨Nat.le_of_ble_eq_true rfl, Nat.le_of_ble_eq_true rfl⟩) (dk_at340 hW) rfl hK hW hS rfl hl.1 rfl (Nat.le_of_ble_eq_true rfl) dL_law_333 ⟨Nat.le_of_ble_eq_true rfl, Nat.le_of_ble_eq_true rfl⟩ (fun v2 I2 H L hp2 hW hS => ?_)
      obtain ⟨dv2, hF2, -⟩ := hp2
      refine lv_icmp_eq (tgt := 1302) hx hb dL_law_336 (by decide) (fun c9 => ?_) (fun c9 => ?_)
      · exact hend _ _ ls hS hl
      · exact absurd (Int32.toInt_inj.mp ((dkN_one dv1).trans (dkN_one dv2).symm)) c9

set_option maxHeartbeats 4000000 in
set_option maxRecDepth 100000 in
theorem k_drop {p : Program} {e : Env} {s : State} {m : MethodId} {below : List Frame} {meth : Method} {c : Code} (l : Launch) {b L z : Nat} {xs : Nat → Int32} {g : dkG} {Q : State → Prop} {H : Heap} {locs : List Loc} {ls : Array Slot} (hz0 : z = s.heap.size) (hx : p.tables.exec = Jvm.exec) (hb : c.code = code) (hml : c.maxLocals = 4) (hown : s.vm.findClass RL = some m.cls) (hts : ∀ w ∈ wsL_law, w.before #[Value.ref b] s = true) (hX : va_X b L xs s s.heap) (hbl : b < s.heap.size) (hL : L = 7) (hK : dkK g s) (hW : dkW g z dkI0 H) (hS : va_S (dkA z) s.heap H locs) (hl : lv_has ls 4 [(3, .int 0), (2, .ref (z + 340)), (1, .ref (z + 0)), (0, .ref b)]) (hend : ∀ (H : Heap) (locs : List Loc) (ls : Array Slot), va_S (dkA z) s.heap H locs → lv_has ls 4 [(3, .int 0), (2, .ref (z + 340)), (1, .ref (z + 0)), (0, .ref b)] → W p l e room_1 s m #[Value.ref b] below meth c H locs (0 + 1 + 339 + 1 + 13) (0 + 10 + 2701 + 26 + 2055) Q (F0 m 1302 ls [])) : W p l e room_1 s m #[Value.ref b] below meth c H locs (0 + 1 + 339 + 1 + 13) (0 + 10 + 2701 + 26 + 2055) Q (F0 m 341 ls []) := by
  have hbA : ¬ dkA z b := by unfold dkA; omega
  have hin : ∀ k : Nat, k < 7 → vp_in (0 + Int32.ofNat k) L := by
    intro k hk
    rw [hL]
    rcases (by omega : k = 0 ∨ k = 1 ∨ k = 2 ∨ k = 3 ∨ k = 4 ∨ k = 5 ∨ k = 6) with rfl | rfl | rfl | rfl | rfl | rfl | rfl <;> exact vp_in_iff.mpr ⟨by decide, by decide⟩
  obtain ⟨a1, ha1⟩ : ∃ y : Int32, xs (Int32.toNatClampNeg (0 + 1)) = y := ⟨_, rfl⟩
  rcases dkN_cut (-1) (0) rfl (dkN_top a1) with h48 | h48
  ·
    refine lv_aload_n hx hb dL_law_341 rfl (lv_at hl 2 rfl) ?_
    refine lv_aload_n hx hb dL_law_342 rfl (lv_at hl 3 rfl) ?_
    refine lv_iload_n hx hb dL_law_343 rfl (lv_at hl 0 rfl) ?_
    refine lv_iconst (v := 1) hx hb dL_law_344 (by decide) ?_
    refine lv_iadd hx hb dL_law_345 ?_
    refine va_sld hx hb hX hbl hbA hS (hin 1 (by decide)) dL_law_346 ?_
    rw [ha1]
    refine dk_Vi (As := [.int a1]) (rest := []) ⟨hx, hb, hml, hown, hts⟩ (c_X5_drop_0 l g z dkI0 a1 (dkN_sub h48 rfl)) (cwV 1 hts gL_law_X5_drop rfl rfl rfl (by decide +kernel) ⟨Nat.le_of_ble_eq_true rfl, Nat.le_of_ble_eq_true rfl⟩) (dk_at0 hW) rfl hK hW hS rfl hl.1 rfl (Nat.le_of_ble_eq_true rfl) dL_law_347 ⟨Nat.le_of_ble_eq_true rfl, Nat.le_of_ble_eq_true rfl⟩ (fun v1 I1 H L hp1 hW hS => ?_)
    obtain ⟨dv1, hF1, -⟩ := hp1
    refine lv_aload_n hx hb dL_law_350 rfl (lv_at hl 1 rfl) ?_
    refine lv_aload_n hx hb dL_law_351 rfl (lv_at hl 3 rfl) ?_
    refine lv_iload_n hx hb dL_law_352 rfl (lv_at hl 0 rfl) ?_
    refine lv_iconst (v := 1) hx hb dL_law_353 (by decide) ?_
    refine lv_iadd hx hb dL_law_354 ?_
    refine va_sld hx hb hX hbl hbA hS (hin 1 (by decide)) dL_law_355 ?_
    rw [ha1]
    refine dk_Vi (As := [.int a1]) (rest := [.int v1]) ⟨hx, hb, hml, hown, hts⟩ (c_X6_drop_0 l g z I1 a1 (dkN_sub h48 rfl)) (cwV 1 hts gL_law_X6_drop rfl rfl rfl (by decide +kernel) ⟨Nat.le_of_ble_eq_true rfl, Nat.le_of_ble_eq_true rfl⟩) (dk_at340 hW) rfl hK hW hS rfl hl.1 rfl (Nat.le_of_ble_eq_true rfl) dL_law_356 ⟨Nat.le_of_ble_eq_true rfl, Nat.le_of_ble_eq_true rfl⟩ (fun v2 I2 H L hp2 hW hS => ?_)
    obtain ⟨dv2, hF2, -⟩ := hp2
    refine lv_icmp_eq (tgt := 1302) hx hb dL_law_359 (by decide) (fun c9 => ?_) (fun c9 => ?_)
    · exact hend _ _ ls hS hl
    · exact absurd (Int32.toInt_inj.mp ((dkN_one dv1).trans (dkN_one dv2).symm)) c9
  ·
    rcases dkN_cut (7) (8) rfl h48 with h49 | h49
    ·
      refine lv_aload_n hx hb dL_law_341 rfl (lv_at hl 2 rfl) ?_
      refine lv_aload_n hx hb dL_law_342 rfl (lv_at hl 3 rfl) ?_
      refine lv_iload_n hx hb dL_law_343 rfl (lv_at hl 0 rfl) ?_
      refine lv_iconst (v := 1) hx hb dL_law_344 (by decide) ?_
      refine lv_iadd hx hb dL_law_345 ?_
      refine va_sld hx hb hX hbl hbA hS (hin 1 (by decide)) dL_law_346 ?_
      rw [ha1]
      refine dk_Vi (As := [.int a1]) (rest := []) ⟨hx, hb, hml, hown, hts⟩ (c_X5_drop_1 l g z dkI0 a1 (dkN_sub h49 rfl) (fun j => dkN_lit (-1) rfl)) (cwV 1 hts gL_law_X5_drop rfl rfl rfl (by decide +kernel) ⟨Nat.le_of_ble_eq_true rfl, Nat.le_of_ble_eq_true rfl⟩) (dk_at0 hW) rfl hK hW hS rfl hl.1 rfl (Nat.le_of_ble_eq_true rfl) dL_law_347 ⟨Nat.le_of_ble_eq_true rfl, Nat.le_of_ble_eq_true rfl⟩ (fun v1 I1 H L hp1 hW hS => ?_)
      obtain ⟨dv1, hF1, _, -⟩ := hp1
      refine lv_aload_n hx hb dL_law_350 rfl (lv_at hl 1 rfl) ?_
      refine lv_aload_n hx hb dL_law_351 rfl (lv_at hl 3 rfl) ?_
      refine lv_iload_n hx hb dL_law_352 rfl (lv_at hl 0 rfl) ?_
      refine lv_iconst (v := 1) hx hb dL_law_353 (by decide) ?_
      refine lv_iadd hx hb dL_law_354 ?_
      refine va_sld hx hb hX hbl hbA hS (hin 1 (by decide)) dL_law_355 ?_
      rw [ha1]
      refine dk_Vi (As := [.int a1]) (rest := [.int v1]) ⟨hx, hb, hml, hown, hts⟩ (c_X6_drop_1 l g z I1 a1 (dkN_sub h49 rfl) (fun j => by rw [hF1 341 j rfl]; exact dkN_lit (-1000000) rfl)) (cwV 1 hts gL_law_X6_drop rfl rfl rfl (by decide +kernel) ⟨Nat.le_of_ble_eq_true rfl, Nat.le_of_ble_eq_true rfl⟩) (dk_at340 hW) rfl hK hW hS rfl hl.1 rfl (Nat.le_of_ble_eq_true rfl) dL_law_356 ⟨Nat.le_of_ble_eq_true rfl, Nat.le_of_ble_eq_true rfl⟩ (fun v2 I2 H L hp2 hW hS => ?_)
      obtain ⟨dv2, hF2, _, -⟩ := hp2
      refine lv_icmp_eq (tgt := 1302) hx hb dL_law_359 (by decide) (fun c9 => ?_) (fun c9 => ?_)
      · exact hend _ _ ls hS hl
      · exact absurd (Int32.toInt_inj.mp ((dkN_one dv1).trans (dkN_one dv2).symm)) c9
    ·
      refine lv_aload_n hx hb dL_law_341 rfl (lv_at hl 2 rfl) ?_
      refine lv_aload_n hx hb dL_law_342 rfl (lv_at hl 3 rfl) ?_
      refine lv_iload_n hx hb dL_law_343 rfl (lv_at hl 0 rfl) ?_
      refine lv_iconst (v := 1) hx hb dL_law_344 (by decide) ?_
      refine lv_iadd hx hb dL_law_345 ?_
      refine va_sld hx hb hX hbl hbA hS (hin 1 (by decide)) dL_law_346 ?_
      rw [ha1]
      refine dk_Vi (As := [.int a1]) (rest := []) ⟨hx, hb, hml, hown, hts⟩ (c_X5_drop_0 l g z dkI0 a1 (dkN_sub h49 rfl)) (cwV 1 hts gL_law_X5_drop rfl rfl rfl (by decide +kernel) ⟨Nat.le_of_ble_eq_true rfl, Nat.le_of_ble_eq_true rfl⟩) (dk_at0 hW) rfl hK hW hS rfl hl.1 rfl (Nat.le_of_ble_eq_true rfl) dL_law_347 ⟨Nat.le_of_ble_eq_true rfl, Nat.le_of_ble_eq_true rfl⟩ (fun v1 I1 H L hp1 hW hS => ?_)
      obtain ⟨dv1, hF1, -⟩ := hp1
      refine lv_aload_n hx hb dL_law_350 rfl (lv_at hl 1 rfl) ?_
      refine lv_aload_n hx hb dL_law_351 rfl (lv_at hl 3 rfl) ?_
      refine lv_iload_n hx hb dL_law_352 rfl (lv_at hl 0 rfl) ?_
      refine lv_iconst (v := 1) hx hb dL_law_353 (by decide) ?_
      refine lv_iadd hx hb dL_law_354 ?_
      refine va_sld hx hb hX hbl hbA hS (hin 1 (by decide)) dL_law_355 ?_
      rw [ha1]
      refine dk_Vi (As := [.int a1]) (rest := [.int v1]) ⟨hx, hb, hml, hown, hts⟩ (c_X6_drop_0 l g z I1 a1 (dkN_sub h49 rfl)) (cwV 1 hts gL_law_X6_drop rfl rfl rfl (by decide +kernel) ⟨Nat.le_of_ble_eq_true rfl, Nat.le_of_ble_eq_true rfl⟩) (dk_at340 hW) rfl hK hW hS rfl hl.1 rfl (Nat.le_of_ble_eq_true rfl) dL_law_356 ⟨Nat.le_of_ble_eq_true rfl, Nat.le_of_ble_eq_true rfl⟩ (fun v2 I2 H L hp2 hW hS => ?_)
      obtain ⟨dv2, hF2, -⟩ := hp2
      refine lv_icmp_eq (tgt := 1302) hx hb dL_law_359 (by decide) (fun c9 => ?_) (fun c9 => ?_)
      · exact hend _ _ ls hS hl
      · exact absurd (Int32.toInt_inj.mp ((dkN_one dv1).trans (dkN_one dv2).symm)) c9

set_option maxHeartbeats 4000000 in
set_option maxRecDepth 100000 in
theorem k_feed {p : Program} {e : Env} {s : State} {m : MethodId} {below : List Frame} {meth : Method} {c : Code} (l : Launch) {b L z : Nat} {xs : Nat → Int32} {g : dkG} {Q : State → Prop} {H : Heap} {locs : List Loc} {ls : Array Slot} (hz0 : z = s.heap.size) (hx : p.tables.exec = Jvm.exec) (hb : c.code = code) (hml : c.maxLocals = 4) (hown : s.vm.findClass RL = some m.cls) (hts : ∀ w ∈ wsL_law, w.before #[Value.ref b] s = true) (hX : va_X b L xs s s.heap) (hbl : b < s.heap.size) (hL : L = 7) (hK : dkK g s) (hW : dkW g z dkI0 H) (hS : va_S (dkA z) s.heap H locs) (hl : lv_has ls 4 [(3, .int 0), (2, .ref (z + 340)), (1, .ref (z + 0)), (0, .ref b)]) (hend : ∀ (H : Heap) (locs : List Loc) (ls : Array Slot), va_S (dkA z) s.heap H locs → lv_has ls 4 [(3, .int 0), (2, .ref (z + 340)), (1, .ref (z + 0)), (0, .ref b)] → W p l e room_1 s m #[Value.ref b] below meth c H locs (0 + 1 + 339 + 1 + 13) (0 + 10 + 2701 + 26 + 2055) Q (F0 m 1302 ls [])) : W p l e room_1 s m #[Value.ref b] below meth c H locs (0 + 1 + 339 + 1 + 13) (0 + 10 + 2701 + 26 + 2055) Q (F0 m 364 ls []) := by
  have hbA : ¬ dkA z b := by unfold dkA; omega
  have hin : ∀ k : Nat, k < 7 → vp_in (0 + Int32.ofNat k) L := by
    intro k hk
    rw [hL]
    rcases (by omega : k = 0 ∨ k = 1 ∨ k = 2 ∨ k = 3 ∨ k = 4 ∨ k = 5 ∨ k = 6) with rfl | rfl | rfl | rfl | rfl | rfl | rfl <;> exact vp_in_iff.mpr ⟨by decide, by decide⟩
  obtain ⟨a1, ha1⟩ : ∃ y : Int32, xs (Int32.toNatClampNeg (0 + 1)) = y := ⟨_, rfl⟩
  rcases dkN_cut (-1) (0) rfl (dkN_top a1) with h50 | h50
  ·
    refine lv_aload_n hx hb dL_law_364 rfl (lv_at hl 2 rfl) ?_
    refine lv_aload_n hx hb dL_law_365 rfl (lv_at hl 3 rfl) ?_
    refine lv_iload_n hx hb dL_law_366 rfl (lv_at hl 0 rfl) ?_
    refine lv_iconst (v := 1) hx hb dL_law_367 (by decide) ?_
    refine lv_iadd hx hb dL_law_368 ?_
    refine va_sld hx hb hX hbl hbA hS (hin 1 (by decide)) dL_law_369 ?_
    rw [ha1]
    refine dk_Vi (As := [.int a1]) (rest := []) ⟨hx, hb, hml, hown, hts⟩ (c_X5_feed_0 l g z dkI0 a1 (dkN_sub h50 rfl)) (cwV 1 hts gL_law_X5_feed rfl rfl rfl (by decide +kernel) ⟨Nat.le_of_ble_eq_true rfl, Nat.le_of_ble_eq_true rfl⟩) (dk_at0 hW) rfl hK hW hS rfl hl.1 rfl (Nat.le_of_ble_eq_true rfl) dL_law_370 ⟨Nat.le_of_ble_eq_true rfl, Nat.le_of_ble_eq_true rfl⟩ (fun v1 I1 H L hp1 hW hS => ?_)
    obtain ⟨dv1, hF1, -⟩ := hp1
    refine lv_aload_n hx hb dL_law_373 rfl (lv_at hl 1 rfl) ?_
    refine lv_aload_n hx hb dL_law_374 rfl (lv_at hl 3 rfl) ?_
    refine lv_iload_n hx hb dL_law_375 rfl (lv_at hl 0 rfl) ?_
    refine lv_iconst (v := 1) hx hb dL_law_376 (by decide) ?_
    refine lv_iadd hx hb dL_law_377 ?_
    refine va_sld hx hb hX hbl hbA hS (hin 1 (by decide)) dL_law_378 ?_
    rw [ha1]
    refine dk_Vi (As := [.int a1]) (rest := [.int v1]) ⟨hx, hb, hml, hown, hts⟩ (c_X6_feed_0 l g z I1 a1 (dkN_sub h50 rfl)) (cwV 1 hts gL_law_X6_feed rfl rfl rfl (by decide +kernel) ⟨Nat.le_of_ble_eq_true rfl, Nat.le_of_ble_eq_true rfl⟩) (dk_at340 hW) rfl hK hW hS rfl hl.1 rfl (Nat.le_of_ble_eq_true rfl) dL_law_379 ⟨Nat.le_of_ble_eq_true rfl, Nat.le_of_ble_eq_true rfl⟩ (fun v2 I2 H L hp2 hW hS => ?_)
    obtain ⟨dv2, hF2, -⟩ := hp2
    refine lv_icmp_eq (tgt := 1302) hx hb dL_law_382 (by decide) (fun c9 => ?_) (fun c9 => ?_)
    · exact hend _ _ ls hS hl
    · exact absurd (Int32.toInt_inj.mp ((dkN_one dv1).trans (dkN_one dv2).symm)) c9
  ·
    rcases dkN_cut (255) (256) rfl h50 with h51 | h51
    ·
      refine lv_aload_n hx hb dL_law_364 rfl (lv_at hl 2 rfl) ?_
      refine lv_aload_n hx hb dL_law_365 rfl (lv_at hl 3 rfl) ?_
      refine lv_iload_n hx hb dL_law_366 rfl (lv_at hl 0 rfl) ?_
      refine lv_iconst (v := 1) hx hb dL_law_367 (by decide) ?_
      refine lv_iadd hx hb dL_law_368 ?_
      refine va_sld hx hb hX hbl hbA hS (hin 1 (by decide)) dL_law_369 ?_
      rw [ha1]
      refine dk_Vi (As := [.int a1]) (rest := []) ⟨hx, hb, hml, hown, hts⟩ (c_X5_feed_1 l g z dkI0 a1 (dkN_sub h51 rfl) (dkN_lit (0) rfl)) (cwV 1 hts gL_law_X5_feed rfl rfl rfl (by decide +kernel) ⟨Nat.le_of_ble_eq_true rfl, Nat.le_of_ble_eq_true rfl⟩) (dk_at0 hW) rfl hK hW hS rfl hl.1 rfl (Nat.le_of_ble_eq_true rfl) dL_law_370 ⟨Nat.le_of_ble_eq_true rfl, Nat.le_of_ble_eq_true rfl⟩ (fun v1 I1 H L hp1 hW hS => ?_)
      obtain ⟨dv1, hF1, _, -⟩ := hp1
      refine lv_aload_n hx hb dL_law_373 rfl (lv_at hl 1 rfl) ?_
      refine lv_aload_n hx hb dL_law_374 rfl (lv_at hl 3 rfl) ?_
      refine lv_iload_n hx hb dL_law_375 rfl (lv_at hl 0 rfl) ?_
      refine lv_iconst (v := 1) hx hb dL_law_376 (by decide) ?_
      refine lv_iadd hx hb dL_law_377 ?_
      refine va_sld hx hb hX hbl hbA hS (hin 1 (by decide)) dL_law_378 ?_
      rw [ha1]
      refine dk_Vi (As := [.int a1]) (rest := [.int v1]) ⟨hx, hb, hml, hown, hts⟩ (c_X6_feed_1 l g z I1 a1 (dkN_sub h51 rfl) (by rw [hF1 340 6 rfl]; exact dkN_lit (0) rfl)) (cwV 1 hts gL_law_X6_feed rfl rfl rfl (by decide +kernel) ⟨Nat.le_of_ble_eq_true rfl, Nat.le_of_ble_eq_true rfl⟩) (dk_at340 hW) rfl hK hW hS rfl hl.1 rfl (Nat.le_of_ble_eq_true rfl) dL_law_379 ⟨Nat.le_of_ble_eq_true rfl, Nat.le_of_ble_eq_true rfl⟩ (fun v2 I2 H L hp2 hW hS => ?_)
      obtain ⟨dv2, hF2, _, -⟩ := hp2
      refine lv_icmp_eq (tgt := 1302) hx hb dL_law_382 (by decide) (fun c9 => ?_) (fun c9 => ?_)
      · exact hend _ _ ls hS hl
      · exact absurd (Int32.toInt_inj.mp ((dkN_one dv1).trans (dkN_one dv2).symm)) c9
    ·
      refine lv_aload_n hx hb dL_law_364 rfl (lv_at hl 2 rfl) ?_
      refine lv_aload_n hx hb dL_law_365 rfl (lv_at hl 3 rfl) ?_
      refine lv_iload_n hx hb dL_law_366 rfl (lv_at hl 0 rfl) ?_
      refine lv_iconst (v := 1) hx hb dL_law_367 (by decide) ?_
      refine lv_iadd hx hb dL_law_368 ?_
      refine va_sld hx hb hX hbl hbA hS (hin 1 (by decide)) dL_law_369 ?_
      rw [ha1]
      refine dk_Vi (As := [.int a1]) (rest := []) ⟨hx, hb, hml, hown, hts⟩ (c_X5_feed_0 l g z dkI0 a1 (dkN_sub h51 rfl)) (cwV 1 hts gL_law_X5_feed rfl rfl rfl (by decide +kernel) ⟨Nat.le_of_ble_eq_true rfl, Nat.le_of_ble_eq_true rfl⟩) (dk_at0 hW) rfl hK hW hS rfl hl.1 rfl (Nat.le_of_ble_eq_true rfl) dL_law_370 ⟨Nat.le_of_ble_eq_true rfl, Nat.le_of_ble_eq_true rfl⟩ (fun v1 I1 H L hp1 hW hS => ?_)
      obtain ⟨dv1, hF1, -⟩ := hp1
      refine lv_aload_n hx hb dL_law_373 rfl (lv_at hl 1 rfl) ?_
      refine lv_aload_n hx hb dL_law_374 rfl (lv_at hl 3 rfl) ?_
      refine lv_iload_n hx hb dL_law_375 rfl (lv_at hl 0 rfl) ?_
      refine lv_iconst (v := 1) hx hb dL_law_376 (by decide) ?_
      refine lv_iadd hx hb dL_law_377 ?_
      refine va_sld hx hb hX hbl hbA hS (hin 1 (by decide)) dL_law_378 ?_
      rw [ha1]
      refine dk_Vi (As := [.int a1]) (rest := [.int v1]) ⟨hx, hb, hml, hown, hts⟩ (c_X6_feed_0 l g z I1 a1 (dkN_sub h51 rfl)) (cwV 1 hts gL_law_X6_feed rfl rfl rfl (by decide +kernel) ⟨Nat.le_of_ble_eq_true rfl, Nat.le_of_ble_eq_true rfl⟩) (dk_at340 hW) rfl hK hW hS rfl hl.1 rfl (Nat.le_of_ble_eq_true rfl) dL_law_379 ⟨Nat.le_of_ble_eq_true rfl, Nat.le_of_ble_eq_true rfl⟩ (fun v2 I2 H L hp2 hW hS => ?_)
      obtain ⟨dv2, hF2, -⟩ := hp2
      refine lv_icmp_eq (tgt := 1302) hx hb dL_law_382 (by decide) (fun c9 => ?_) (fun c9 => ?_)
      · exact hend _ _ ls hS hl
      · exact absurd (Int32.toInt_inj.mp ((dkN_one dv1).trans (dkN_one dv2).symm)) c9

set_option maxHeartbeats 4000000 in
set_option maxRecDepth 100000 in
theorem k_town {p : Program} {e : Env} {s : State} {m : MethodId} {below : List Frame} {meth : Method} {c : Code} (l : Launch) {b L z : Nat} {xs : Nat → Int32} {g : dkG} {Q : State → Prop} {H : Heap} {locs : List Loc} {ls : Array Slot} (hz0 : z = s.heap.size) (hx : p.tables.exec = Jvm.exec) (hb : c.code = code) (hml : c.maxLocals = 4) (hown : s.vm.findClass RL = some m.cls) (hts : ∀ w ∈ wsL_law, w.before #[Value.ref b] s = true) (hX : va_X b L xs s s.heap) (hbl : b < s.heap.size) (hL : L = 7) (hK : dkK g s) (hW : dkW g z dkI0 H) (hS : va_S (dkA z) s.heap H locs) (hl : lv_has ls 4 [(3, .int 0), (2, .ref (z + 340)), (1, .ref (z + 0)), (0, .ref b)]) (hend : ∀ (H : Heap) (locs : List Loc) (ls : Array Slot), va_S (dkA z) s.heap H locs → lv_has ls 4 [(3, .int 0), (2, .ref (z + 340)), (1, .ref (z + 0)), (0, .ref b)] → W p l e room_1 s m #[Value.ref b] below meth c H locs (0 + 1 + 339 + 1 + 13) (0 + 10 + 2701 + 26 + 2055) Q (F0 m 1302 ls [])) : W p l e room_1 s m #[Value.ref b] below meth c H locs (0 + 1 + 339 + 1 + 13) (0 + 10 + 2701 + 26 + 2055) Q (F0 m 387 ls []) := by
  have hbA : ¬ dkA z b := by unfold dkA; omega
  have hin : ∀ k : Nat, k < 7 → vp_in (0 + Int32.ofNat k) L := by
    intro k hk
    rw [hL]
    rcases (by omega : k = 0 ∨ k = 1 ∨ k = 2 ∨ k = 3 ∨ k = 4 ∨ k = 5 ∨ k = 6) with rfl | rfl | rfl | rfl | rfl | rfl | rfl <;> exact vp_in_iff.mpr ⟨by decide, by decide⟩
  refine lv_aload_n hx hb dL_law_387 rfl (lv_at hl 2 rfl) ?_
  refine dk_Vi (As := []) (rest := []) ⟨hx, hb, hml, hown, hts⟩ (c_X5_town_0 l g z dkI0 (dkN_lit (0) rfl)) (cwV 0 hts gL_law_X5_town rfl rfl rfl (by decide +kernel) ⟨Nat.le_of_ble_eq_true rfl, Nat.le_of_ble_eq_true rfl⟩) (dk_at0 hW) rfl hK hW hS rfl hl.1 rfl (Nat.le_of_ble_eq_true rfl) dL_law_388 ⟨Nat.le_of_ble_eq_true rfl, Nat.le_of_ble_eq_true rfl⟩ (fun v1 I1 H L hp1 hW hS => ?_)
  obtain ⟨dv1, hF1, _, _, _, _, -⟩ := hp1
  refine lv_aload_n hx hb dL_law_391 rfl (lv_at hl 1 rfl) ?_
  refine dk_Vi (As := []) (rest := [.int v1]) ⟨hx, hb, hml, hown, hts⟩ (c_X6_town_0 l g z I1 (by rw [hF1 340 10 rfl]; exact dkN_lit (0) rfl) (by rw [hF1 340 11 rfl]; exact dkN_lit (0) rfl) (by rw [hF1 340 12 rfl]; exact dkN_lit (0) rfl) (by rw [hF1 340 6 rfl]; exact dkN_lit (0) rfl) (by rw [hF1 340 7 rfl]; exact dkN_lit (0) rfl) (by rw [hF1 340 8 rfl]; exact dkN_lit (0) rfl) (by rw [hF1 340 9 rfl]; exact dkN_lit (0) rfl)) (cwV 0 hts gL_law_X6_town rfl rfl rfl (by decide +kernel) ⟨Nat.le_of_ble_eq_true rfl, Nat.le_of_ble_eq_true rfl⟩) (dk_at340 hW) rfl hK hW hS rfl hl.1 rfl (Nat.le_of_ble_eq_true rfl) dL_law_392 ⟨Nat.le_of_ble_eq_true rfl, Nat.le_of_ble_eq_true rfl⟩ (fun v2 I2 H L hp2 hW hS => ?_)
  obtain ⟨dv2, hF2, _, _, _, _, _, _, _, -⟩ := hp2
  refine lv_icmp_eq (tgt := 1302) hx hb dL_law_395 (by decide) (fun c9 => ?_) (fun c9 => ?_)
  · exact hend _ _ ls hS hl
  · exact absurd (Int32.toInt_inj.mp ((dkN_one dv1).trans (dkN_one dv2).symm)) c9

set_option maxHeartbeats 4000000 in
set_option maxRecDepth 100000 in
theorem k_fault {p : Program} {e : Env} {s : State} {m : MethodId} {below : List Frame} {meth : Method} {c : Code} (l : Launch) {b L z : Nat} {xs : Nat → Int32} {g : dkG} {Q : State → Prop} {H : Heap} {locs : List Loc} {ls : Array Slot} (hz0 : z = s.heap.size) (hx : p.tables.exec = Jvm.exec) (hb : c.code = code) (hml : c.maxLocals = 4) (hown : s.vm.findClass RL = some m.cls) (hts : ∀ w ∈ wsL_law, w.before #[Value.ref b] s = true) (hX : va_X b L xs s s.heap) (hbl : b < s.heap.size) (hL : L = 7) (hK : dkK g s) (hW : dkW g z dkI0 H) (hS : va_S (dkA z) s.heap H locs) (hl : lv_has ls 4 [(3, .int 0), (2, .ref (z + 340)), (1, .ref (z + 0)), (0, .ref b)]) (hend : ∀ (H : Heap) (locs : List Loc) (ls : Array Slot), va_S (dkA z) s.heap H locs → lv_has ls 4 [(3, .int 0), (2, .ref (z + 340)), (1, .ref (z + 0)), (0, .ref b)] → W p l e room_1 s m #[Value.ref b] below meth c H locs (0 + 1 + 339 + 1 + 13) (0 + 10 + 2701 + 26 + 2055) Q (F0 m 1302 ls [])) : W p l e room_1 s m #[Value.ref b] below meth c H locs (0 + 1 + 339 + 1 + 13) (0 + 10 + 2701 + 26 + 2055) Q (F0 m 400 ls []) := by
  have hbA : ¬ dkA z b := by unfold dkA; omega
  have hin : ∀ k : Nat, k < 7 → vp_in (0 + Int32.ofNat k) L := by
    intro k hk
    rw [hL]
    rcases (by omega : k = 0 ∨ k = 1 ∨ k = 2 ∨ k = 3 ∨ k = 4 ∨ k = 5 ∨ k = 6) with rfl | rfl | rfl | rfl | rfl | rfl | rfl <;> exact vp_in_iff.mpr ⟨by decide, by decide⟩
  refine lv_aload_n hx hb dL_law_400 rfl (lv_at hl 2 rfl) ?_
  refine dk_Vi (As := []) (rest := []) ⟨hx, hb, hml, hown, hts⟩ (c_X5_fault_0 l g z dkI0 (dkN_lit (0) rfl)) (cwV 0 hts gL_law_X5_fault rfl rfl rfl (by decide +kernel) ⟨Nat.le_of_ble_eq_true rfl, Nat.le_of_ble_eq_true rfl⟩) (dk_at0 hW) rfl hK hW hS rfl hl.1 rfl (Nat.le_of_ble_eq_true rfl) dL_law_401 ⟨Nat.le_of_ble_eq_true rfl, Nat.le_of_ble_eq_true rfl⟩ (fun v1 I1 H L hp1 hW hS => ?_)
  obtain ⟨dv1, hF1, -⟩ := hp1
  refine lv_aload_n hx hb dL_law_404 rfl (lv_at hl 1 rfl) ?_
  refine dk_Vi (As := []) (rest := [.int v1]) ⟨hx, hb, hml, hown, hts⟩ (c_X6_fault_0 l g z I1 (by rw [hF1 340 7 rfl]; exact dkN_lit (0) rfl)) (cwV 0 hts gL_law_X6_fault rfl rfl rfl (by decide +kernel) ⟨Nat.le_of_ble_eq_true rfl, Nat.le_of_ble_eq_true rfl⟩) (dk_at340 hW) rfl hK hW hS rfl hl.1 rfl (Nat.le_of_ble_eq_true rfl) dL_law_405 ⟨Nat.le_of_ble_eq_true rfl, Nat.le_of_ble_eq_true rfl⟩ (fun v2 I2 H L hp2 hW hS => ?_)
  obtain ⟨dv2, hF2, -⟩ := hp2
  refine lv_icmp_eq (tgt := 1302) hx hb dL_law_408 (by decide) (fun c9 => ?_) (fun c9 => ?_)
  · exact hend _ _ ls hS hl
  · exact absurd (Int32.toInt_inj.mp ((dkN_one dv1).trans (dkN_one dv2).symm)) c9

set_option maxHeartbeats 4000000 in
set_option maxRecDepth 100000 in
theorem k_minutes {p : Program} {e : Env} {s : State} {m : MethodId} {below : List Frame} {meth : Method} {c : Code} (l : Launch) {b L z : Nat} {xs : Nat → Int32} {g : dkG} {Q : State → Prop} {H : Heap} {locs : List Loc} {ls : Array Slot} (hz0 : z = s.heap.size) (hx : p.tables.exec = Jvm.exec) (hb : c.code = code) (hml : c.maxLocals = 4) (hown : s.vm.findClass RL = some m.cls) (hts : ∀ w ∈ wsL_law, w.before #[Value.ref b] s = true) (hX : va_X b L xs s s.heap) (hbl : b < s.heap.size) (hL : L = 7) (hK : dkK g s) (hW : dkW g z dkI0 H) (hS : va_S (dkA z) s.heap H locs) (hl : lv_has ls 4 [(3, .int 0), (2, .ref (z + 340)), (1, .ref (z + 0)), (0, .ref b)]) (hend : ∀ (H : Heap) (locs : List Loc) (ls : Array Slot), va_S (dkA z) s.heap H locs → lv_has ls 4 [(3, .int 0), (2, .ref (z + 340)), (1, .ref (z + 0)), (0, .ref b)] → W p l e room_1 s m #[Value.ref b] below meth c H locs (0 + 1 + 339 + 1 + 13) (0 + 10 + 2701 + 26 + 2055) Q (F0 m 1302 ls [])) : W p l e room_1 s m #[Value.ref b] below meth c H locs (0 + 1 + 339 + 1 + 13) (0 + 10 + 2701 + 26 + 2055) Q (F0 m 413 ls []) := by
  have hbA : ¬ dkA z b := by unfold dkA; omega
  have hin : ∀ k : Nat, k < 7 → vp_in (0 + Int32.ofNat k) L := by
    intro k hk
    rw [hL]
    rcases (by omega : k = 0 ∨ k = 1 ∨ k = 2 ∨ k = 3 ∨ k = 4 ∨ k = 5 ∨ k = 6) with rfl | rfl | rfl | rfl | rfl | rfl | rfl <;> exact vp_in_iff.mpr ⟨by decide, by decide⟩
  obtain ⟨a1, ha1⟩ : ∃ y : Int32, xs (Int32.toNatClampNeg (0 + 1)) = y := ⟨_, rfl⟩
  refine lv_aload_n hx hb dL_law_413 rfl (lv_at hl 2 rfl) ?_
  refine lv_aload_n hx hb dL_law_414 rfl (lv_at hl 3 rfl) ?_
  refine lv_iload_n hx hb dL_law_415 rfl (lv_at hl 0 rfl) ?_
  refine lv_iconst (v := 1) hx hb dL_law_416 (by decide) ?_
  refine lv_iadd hx hb dL_law_417 ?_
  refine va_sld hx hb hX hbl hbA hS (hin 1 (by decide)) dL_law_418 ?_
  rw [ha1]
  refine dk_Vi (As := [.int a1]) (rest := []) ⟨hx, hb, hml, hown, hts⟩ (c_X5_minutes_0 l g z dkI0 a1 (dkN_lit (0) rfl)) (cwV 1 hts gL_law_X5_minutes rfl rfl rfl (by decide +kernel) ⟨Nat.le_of_ble_eq_true rfl, Nat.le_of_ble_eq_true rfl⟩) (dk_at0 hW) rfl hK hW hS rfl hl.1 rfl (Nat.le_of_ble_eq_true rfl) dL_law_419 ⟨Nat.le_of_ble_eq_true rfl, Nat.le_of_ble_eq_true rfl⟩ (fun v1 I1 H L hp1 hW hS => ?_)
  obtain ⟨dv1, hF1, -⟩ := hp1
  refine lv_aload_n hx hb dL_law_422 rfl (lv_at hl 1 rfl) ?_
  refine lv_aload_n hx hb dL_law_423 rfl (lv_at hl 3 rfl) ?_
  refine lv_iload_n hx hb dL_law_424 rfl (lv_at hl 0 rfl) ?_
  refine lv_iconst (v := 1) hx hb dL_law_425 (by decide) ?_
  refine lv_iadd hx hb dL_law_426 ?_
  refine va_sld hx hb hX hbl hbA hS (hin 1 (by decide)) dL_law_427 ?_
  rw [ha1]
  refine dk_Vi (As := [.int a1]) (rest := [.int v1]) ⟨hx, hb, hml, hown, hts⟩ (c_X6_minutes_0 l g z I1 a1 (by rw [hF1 346 0 rfl]; exact dkN_lit (0) rfl)) (cwV 1 hts gL_law_X6_minutes rfl rfl rfl (by decide +kernel) ⟨Nat.le_of_ble_eq_true rfl, Nat.le_of_ble_eq_true rfl⟩) (dk_at340 hW) rfl hK hW hS rfl hl.1 rfl (Nat.le_of_ble_eq_true rfl) dL_law_428 ⟨Nat.le_of_ble_eq_true rfl, Nat.le_of_ble_eq_true rfl⟩ (fun v2 I2 H L hp2 hW hS => ?_)
  obtain ⟨dv2, hF2, -⟩ := hp2
  refine lv_icmp_eq (tgt := 1302) hx hb dL_law_431 (by decide) (fun c9 => ?_) (fun c9 => ?_)
  · exact hend _ _ ls hS hl
  · exact absurd (Int32.toInt_inj.mp ((dkN_one dv1).trans (dkN_one dv2).symm)) c9

set_option maxHeartbeats 4000000 in
set_option maxRecDepth 100000 in
theorem k_bones {p : Program} {e : Env} {s : State} {m : MethodId} {below : List Frame} {meth : Method} {c : Code} (l : Launch) {b L z : Nat} {xs : Nat → Int32} {g : dkG} {Q : State → Prop} {H : Heap} {locs : List Loc} {ls : Array Slot} (hz0 : z = s.heap.size) (hx : p.tables.exec = Jvm.exec) (hb : c.code = code) (hml : c.maxLocals = 4) (hown : s.vm.findClass RL = some m.cls) (hts : ∀ w ∈ wsL_law, w.before #[Value.ref b] s = true) (hX : va_X b L xs s s.heap) (hbl : b < s.heap.size) (hL : L = 7) (hK : dkK g s) (hW : dkW g z dkI0 H) (hS : va_S (dkA z) s.heap H locs) (hl : lv_has ls 4 [(3, .int 0), (2, .ref (z + 340)), (1, .ref (z + 0)), (0, .ref b)]) (hend : ∀ (H : Heap) (locs : List Loc) (ls : Array Slot), va_S (dkA z) s.heap H locs → lv_has ls 4 [(3, .int 0), (2, .ref (z + 340)), (1, .ref (z + 0)), (0, .ref b)] → W p l e room_1 s m #[Value.ref b] below meth c H locs (0 + 1 + 339 + 1 + 13) (0 + 10 + 2701 + 26 + 2055) Q (F0 m 1302 ls [])) : W p l e room_1 s m #[Value.ref b] below meth c H locs (0 + 1 + 339 + 1 + 13) (0 + 10 + 2701 + 26 + 2055) Q (F0 m 436 ls []) := by
  have hbA : ¬ dkA z b := by unfold dkA; omega
  have hin : ∀ k : Nat, k < 7 → vp_in (0 + Int32.ofNat k) L := by
    intro k hk
    rw [hL]
    rcases (by omega : k = 0 ∨ k = 1 ∨ k = 2 ∨ k = 3 ∨ k = 4 ∨ k = 5 ∨ k = 6) with rfl | rfl | rfl | rfl | rfl | rfl | rfl <;> exact vp_in_iff.mpr ⟨by decide, by decide⟩
  obtain ⟨a1, ha1⟩ : ∃ y : Int32, xs (Int32.toNatClampNeg (0 + 1)) = y := ⟨_, rfl⟩
  obtain ⟨a2, ha2⟩ : ∃ y : Int32, xs (Int32.toNatClampNeg (0 + 2)) = y := ⟨_, rfl⟩
  refine lv_aload_n hx hb dL_law_436 rfl (lv_at hl 2 rfl) ?_
  refine lv_aload_n hx hb dL_law_437 rfl (lv_at hl 3 rfl) ?_
  refine lv_iload_n hx hb dL_law_438 rfl (lv_at hl 0 rfl) ?_
  refine lv_iconst (v := 1) hx hb dL_law_439 (by decide) ?_
  refine lv_iadd hx hb dL_law_440 ?_
  refine va_sld hx hb hX hbl hbA hS (hin 1 (by decide)) dL_law_441 ?_
  rw [ha1]
  refine lv_aload_n hx hb dL_law_442 rfl (lv_at hl 3 rfl) ?_
  refine lv_iload_n hx hb dL_law_443 rfl (lv_at hl 0 rfl) ?_
  refine lv_iconst (v := 2) hx hb dL_law_444 (by decide) ?_
  refine lv_iadd hx hb dL_law_445 ?_
  refine va_sld hx hb hX hbl hbA hS (hin 2 (by decide)) dL_law_446 ?_
  rw [ha2]
  refine dk_Vi (As := [.int a1, .int a2]) (rest := []) ⟨hx, hb, hml, hown, hts⟩ (c_X5_bones_0 l g z dkI0 a1 a2 (dkN_lit (0) rfl)) (cwV 2 hts gL_law_X5_bones rfl rfl rfl (by decide +kernel) ⟨Nat.le_of_ble_eq_true rfl, Nat.le_of_ble_eq_true rfl⟩) (dk_at0 hW) rfl hK hW hS rfl hl.1 rfl (Nat.le_of_ble_eq_true rfl) dL_law_447 ⟨Nat.le_of_ble_eq_true rfl, Nat.le_of_ble_eq_true rfl⟩ (fun v1 I1 H L hp1 hW hS => ?_)
  obtain ⟨dv1, hF1, -⟩ := hp1
  refine lv_aload_n hx hb dL_law_450 rfl (lv_at hl 1 rfl) ?_
  refine lv_aload_n hx hb dL_law_451 rfl (lv_at hl 3 rfl) ?_
  refine lv_iload_n hx hb dL_law_452 rfl (lv_at hl 0 rfl) ?_
  refine lv_iconst (v := 1) hx hb dL_law_453 (by decide) ?_
  refine lv_iadd hx hb dL_law_454 ?_
  refine va_sld hx hb hX hbl hbA hS (hin 1 (by decide)) dL_law_455 ?_
  rw [ha1]
  refine lv_aload_n hx hb dL_law_456 rfl (lv_at hl 3 rfl) ?_
  refine lv_iload_n hx hb dL_law_457 rfl (lv_at hl 0 rfl) ?_
  refine lv_iconst (v := 2) hx hb dL_law_458 (by decide) ?_
  refine lv_iadd hx hb dL_law_459 ?_
  refine va_sld hx hb hX hbl hbA hS (hin 2 (by decide)) dL_law_460 ?_
  rw [ha2]
  refine dk_Vi (As := [.int a1, .int a2]) (rest := [.int v1]) ⟨hx, hb, hml, hown, hts⟩ (c_X6_bones_0 l g z I1 a1 a2 (by rw [hF1 346 4 rfl]; exact dkN_lit (0) rfl)) (cwV 2 hts gL_law_X6_bones rfl rfl rfl (by decide +kernel) ⟨Nat.le_of_ble_eq_true rfl, Nat.le_of_ble_eq_true rfl⟩) (dk_at340 hW) rfl hK hW hS rfl hl.1 rfl (Nat.le_of_ble_eq_true rfl) dL_law_461 ⟨Nat.le_of_ble_eq_true rfl, Nat.le_of_ble_eq_true rfl⟩ (fun v2 I2 H L hp2 hW hS => ?_)
  obtain ⟨dv2, hF2, -⟩ := hp2
  refine lv_icmp_eq (tgt := 1302) hx hb dL_law_464 (by decide) (fun c9 => ?_) (fun c9 => ?_)
  · exact hend _ _ ls hS hl
  · exact absurd (Int32.toInt_inj.mp ((dkN_one dv1).trans (dkN_one dv2).symm)) c9

set_option maxHeartbeats 4000000 in
set_option maxRecDepth 100000 in
theorem k_walk {p : Program} {e : Env} {s : State} {m : MethodId} {below : List Frame} {meth : Method} {c : Code} (l : Launch) {b L z : Nat} {xs : Nat → Int32} {g : dkG} {Q : State → Prop} {H : Heap} {locs : List Loc} {ls : Array Slot} (hz0 : z = s.heap.size) (hx : p.tables.exec = Jvm.exec) (hb : c.code = code) (hml : c.maxLocals = 4) (hown : s.vm.findClass RL = some m.cls) (hts : ∀ w ∈ wsL_law, w.before #[Value.ref b] s = true) (hX : va_X b L xs s s.heap) (hbl : b < s.heap.size) (hL : L = 7) (hK : dkK g s) (hW : dkW g z dkI0 H) (hS : va_S (dkA z) s.heap H locs) (hl : lv_has ls 4 [(3, .int 0), (2, .ref (z + 340)), (1, .ref (z + 0)), (0, .ref b)]) (hend : ∀ (H : Heap) (locs : List Loc) (ls : Array Slot), va_S (dkA z) s.heap H locs → lv_has ls 4 [(3, .int 0), (2, .ref (z + 340)), (1, .ref (z + 0)), (0, .ref b)] → W p l e room_1 s m #[Value.ref b] below meth c H locs (0 + 1 + 339 + 1 + 13) (0 + 10 + 2701 + 26 + 2055) Q (F0 m 1302 ls [])) : W p l e room_1 s m #[Value.ref b] below meth c H locs (0 + 1 + 339 + 1 + 13) (0 + 10 + 2701 + 26 + 2055) Q (F0 m 469 ls []) := by
  have hbA : ¬ dkA z b := by unfold dkA; omega
  have hin : ∀ k : Nat, k < 7 → vp_in (0 + Int32.ofNat k) L := by
    intro k hk
    rw [hL]
    rcases (by omega : k = 0 ∨ k = 1 ∨ k = 2 ∨ k = 3 ∨ k = 4 ∨ k = 5 ∨ k = 6) with rfl | rfl | rfl | rfl | rfl | rfl | rfl <;> exact vp_in_iff.mpr ⟨by decide, by decide⟩
  obtain ⟨a1, ha1⟩ : ∃ y : Int32, xs (Int32.toNatClampNeg (0 + 1)) = y := ⟨_, rfl⟩
  obtain ⟨a2, ha2⟩ : ∃ y : Int32, xs (Int32.toNatClampNeg (0 + 2)) = y := ⟨_, rfl⟩
  refine lv_aload_n hx hb dL_law_469 rfl (lv_at hl 2 rfl) ?_
  refine lv_aload_n hx hb dL_law_470 rfl (lv_at hl 3 rfl) ?_
  refine lv_iload_n hx hb dL_law_471 rfl (lv_at hl 0 rfl) ?_
  refine lv_iconst (v := 1) hx hb dL_law_472 (by decide) ?_
  refine lv_iadd hx hb dL_law_473 ?_
  refine va_sld hx hb hX hbl hbA hS (hin 1 (by decide)) dL_law_474 ?_
  rw [ha1]
  refine lv_aload_n hx hb dL_law_475 rfl (lv_at hl 3 rfl) ?_
  refine lv_iload_n hx hb dL_law_476 rfl (lv_at hl 0 rfl) ?_
  refine lv_iconst (v := 2) hx hb dL_law_477 (by decide) ?_
  refine lv_iadd hx hb dL_law_478 ?_
  refine va_sld hx hb hX hbl hbA hS (hin 2 (by decide)) dL_law_479 ?_
  rw [ha2]
  refine dk_Vi (As := [.int a1, .int a2]) (rest := []) ⟨hx, hb, hml, hown, hts⟩ (c_X5_walk_0 l g z dkI0 a1 a2 (dkN_lit (0) rfl)) (cwV 2 hts gL_law_X5_walk rfl rfl rfl (by decide +kernel) ⟨Nat.le_of_ble_eq_true rfl, Nat.le_of_ble_eq_true rfl⟩) (dk_at0 hW) rfl hK hW hS rfl hl.1 rfl (Nat.le_of_ble_eq_true rfl) dL_law_480 ⟨Nat.le_of_ble_eq_true rfl, Nat.le_of_ble_eq_true rfl⟩ (fun v1 I1 H L hp1 hW hS => ?_)
  obtain ⟨dv1, hF1, -⟩ := hp1
  refine lv_aload_n hx hb dL_law_483 rfl (lv_at hl 1 rfl) ?_
  refine lv_aload_n hx hb dL_law_484 rfl (lv_at hl 3 rfl) ?_
  refine lv_iload_n hx hb dL_law_485 rfl (lv_at hl 0 rfl) ?_
  refine lv_iconst (v := 1) hx hb dL_law_486 (by decide) ?_
  refine lv_iadd hx hb dL_law_487 ?_
  refine va_sld hx hb hX hbl hbA hS (hin 1 (by decide)) dL_law_488 ?_
  rw [ha1]
  refine lv_aload_n hx hb dL_law_489 rfl (lv_at hl 3 rfl) ?_
  refine lv_iload_n hx hb dL_law_490 rfl (lv_at hl 0 rfl) ?_
  refine lv_iconst (v := 2) hx hb dL_law_491 (by decide) ?_
  refine lv_iadd hx hb dL_law_492 ?_
  refine va_sld hx hb hX hbl hbA hS (hin 2 (by decide)) dL_law_493 ?_
  rw [ha2]
  refine dk_Vi (As := [.int a1, .int a2]) (rest := [.int v1]) ⟨hx, hb, hml, hown, hts⟩ (c_X6_walk_0 l g z I1 a1 a2 (by rw [hF1 346 4 rfl]; exact dkN_lit (0) rfl)) (cwV 2 hts gL_law_X6_walk rfl rfl rfl (by decide +kernel) ⟨Nat.le_of_ble_eq_true rfl, Nat.le_of_ble_eq_true rfl⟩) (dk_at340 hW) rfl hK hW hS rfl hl.1 rfl (Nat.le_of_ble_eq_true rfl) dL_law_494 ⟨Nat.le_of_ble_eq_true rfl, Nat.le_of_ble_eq_true rfl⟩ (fun v2 I2 H L hp2 hW hS => ?_)
  obtain ⟨dv2, hF2, -⟩ := hp2
  refine lv_icmp_eq (tgt := 1302) hx hb dL_law_497 (by decide) (fun c9 => ?_) (fun c9 => ?_)
  · exact hend _ _ ls hS hl
  · exact absurd (Int32.toInt_inj.mp ((dkN_one dv1).trans (dkN_one dv2).symm)) c9

set_option maxHeartbeats 4000000 in
set_option maxRecDepth 100000 in
theorem k_put {p : Program} {e : Env} {s : State} {m : MethodId} {below : List Frame} {meth : Method} {c : Code} (l : Launch) {b L z : Nat} {xs : Nat → Int32} {g : dkG} {Q : State → Prop} {H : Heap} {locs : List Loc} {ls : Array Slot} (hz0 : z = s.heap.size) (hx : p.tables.exec = Jvm.exec) (hb : c.code = code) (hml : c.maxLocals = 4) (hown : s.vm.findClass RL = some m.cls) (hts : ∀ w ∈ wsL_law, w.before #[Value.ref b] s = true) (hX : va_X b L xs s s.heap) (hbl : b < s.heap.size) (hL : L = 7) (hK : dkK g s) (hW : dkW g z dkI0 H) (hS : va_S (dkA z) s.heap H locs) (hl : lv_has ls 4 [(3, .int 0), (2, .ref (z + 340)), (1, .ref (z + 0)), (0, .ref b)]) (hend : ∀ (H : Heap) (locs : List Loc) (ls : Array Slot), va_S (dkA z) s.heap H locs → lv_has ls 4 [(3, .int 0), (2, .ref (z + 340)), (1, .ref (z + 0)), (0, .ref b)] → W p l e room_1 s m #[Value.ref b] below meth c H locs (0 + 1 + 339 + 1 + 13) (0 + 10 + 2701 + 26 + 2055) Q (F0 m 1302 ls [])) : W p l e room_1 s m #[Value.ref b] below meth c H locs (0 + 1 + 339 + 1 + 13) (0 + 10 + 2701 + 26 + 2055) Q (F0 m 502 ls []) := by
  have hbA : ¬ dkA z b := by unfold dkA; omega
  have hin : ∀ k : Nat, k < 7 → vp_in (0 + Int32.ofNat k) L := by
    intro k hk
    rw [hL]
    rcases (by omega : k = 0 ∨ k = 1 ∨ k = 2 ∨ k = 3 ∨ k = 4 ∨ k = 5 ∨ k = 6) with rfl | rfl | rfl | rfl | rfl | rfl | rfl <;> exact vp_in_iff.mpr ⟨by decide, by decide⟩
  obtain ⟨a1, ha1⟩ : ∃ y : Int32, xs (Int32.toNatClampNeg (0 + 1)) = y := ⟨_, rfl⟩
  obtain ⟨a2, ha2⟩ : ∃ y : Int32, xs (Int32.toNatClampNeg (0 + 2)) = y := ⟨_, rfl⟩
  refine lv_aload_n hx hb dL_law_502 rfl (lv_at hl 2 rfl) ?_
  refine lv_aload_n hx hb dL_law_503 rfl (lv_at hl 3 rfl) ?_
  refine lv_iload_n hx hb dL_law_504 rfl (lv_at hl 0 rfl) ?_
  refine lv_iconst (v := 1) hx hb dL_law_505 (by decide) ?_
  refine lv_iadd hx hb dL_law_506 ?_
  refine va_sld hx hb hX hbl hbA hS (hin 1 (by decide)) dL_law_507 ?_
  rw [ha1]
  refine lv_aload_n hx hb dL_law_508 rfl (lv_at hl 3 rfl) ?_
  refine lv_iload_n hx hb dL_law_509 rfl (lv_at hl 0 rfl) ?_
  refine lv_iconst (v := 2) hx hb dL_law_510 (by decide) ?_
  refine lv_iadd hx hb dL_law_511 ?_
  refine va_sld hx hb hX hbl hbA hS (hin 2 (by decide)) dL_law_512 ?_
  rw [ha2]
  refine dk_Vi (As := [.int a1, .int a2]) (rest := []) ⟨hx, hb, hml, hown, hts⟩ (c_X5_put_0 l g z dkI0 a1 a2 (dkN_lit (0) rfl)) (cwV 2 hts gL_law_X5_put rfl rfl rfl (by decide +kernel) ⟨Nat.le_of_ble_eq_true rfl, Nat.le_of_ble_eq_true rfl⟩) (dk_at0 hW) rfl hK hW hS rfl hl.1 rfl (Nat.le_of_ble_eq_true rfl) dL_law_513 ⟨Nat.le_of_ble_eq_true rfl, Nat.le_of_ble_eq_true rfl⟩ (fun v1 I1 H L hp1 hW hS => ?_)
  obtain ⟨dv1, hF1, -⟩ := hp1
  refine lv_aload_n hx hb dL_law_516 rfl (lv_at hl 1 rfl) ?_
  refine lv_aload_n hx hb dL_law_517 rfl (lv_at hl 3 rfl) ?_
  refine lv_iload_n hx hb dL_law_518 rfl (lv_at hl 0 rfl) ?_
  refine lv_iconst (v := 1) hx hb dL_law_519 (by decide) ?_
  refine lv_iadd hx hb dL_law_520 ?_
  refine va_sld hx hb hX hbl hbA hS (hin 1 (by decide)) dL_law_521 ?_
  rw [ha1]
  refine lv_aload_n hx hb dL_law_522 rfl (lv_at hl 3 rfl) ?_
  refine lv_iload_n hx hb dL_law_523 rfl (lv_at hl 0 rfl) ?_
  refine lv_iconst (v := 2) hx hb dL_law_524 (by decide) ?_
  refine lv_iadd hx hb dL_law_525 ?_
  refine va_sld hx hb hX hbl hbA hS (hin 2 (by decide)) dL_law_526 ?_
  rw [ha2]
  refine dk_Vi (As := [.int a1, .int a2]) (rest := [.int v1]) ⟨hx, hb, hml, hown, hts⟩ (c_X6_put_0 l g z I1 a1 a2 (by rw [hF1 346 5 rfl]; exact dkN_lit (0) rfl)) (cwV 2 hts gL_law_X6_put rfl rfl rfl (by decide +kernel) ⟨Nat.le_of_ble_eq_true rfl, Nat.le_of_ble_eq_true rfl⟩) (dk_at340 hW) rfl hK hW hS rfl hl.1 rfl (Nat.le_of_ble_eq_true rfl) dL_law_527 ⟨Nat.le_of_ble_eq_true rfl, Nat.le_of_ble_eq_true rfl⟩ (fun v2 I2 H L hp2 hW hS => ?_)
  obtain ⟨dv2, hF2, -⟩ := hp2
  refine lv_icmp_eq (tgt := 1302) hx hb dL_law_530 (by decide) (fun c9 => ?_) (fun c9 => ?_)
  · exact hend _ _ ls hS hl
  · exact absurd (Int32.toInt_inj.mp ((dkN_one dv1).trans (dkN_one dv2).symm)) c9

set_option maxHeartbeats 4000000 in
set_option maxRecDepth 100000 in
theorem k_undo {p : Program} {e : Env} {s : State} {m : MethodId} {below : List Frame} {meth : Method} {c : Code} (l : Launch) {b L z : Nat} {xs : Nat → Int32} {g : dkG} {Q : State → Prop} {H : Heap} {locs : List Loc} {ls : Array Slot} (hz0 : z = s.heap.size) (hx : p.tables.exec = Jvm.exec) (hb : c.code = code) (hml : c.maxLocals = 4) (hown : s.vm.findClass RL = some m.cls) (hts : ∀ w ∈ wsL_law, w.before #[Value.ref b] s = true) (hX : va_X b L xs s s.heap) (hbl : b < s.heap.size) (hL : L = 7) (hK : dkK g s) (hW : dkW g z dkI0 H) (hS : va_S (dkA z) s.heap H locs) (hl : lv_has ls 4 [(3, .int 0), (2, .ref (z + 340)), (1, .ref (z + 0)), (0, .ref b)]) (hend : ∀ (H : Heap) (locs : List Loc) (ls : Array Slot), va_S (dkA z) s.heap H locs → lv_has ls 4 [(3, .int 0), (2, .ref (z + 340)), (1, .ref (z + 0)), (0, .ref b)] → W p l e room_1 s m #[Value.ref b] below meth c H locs (0 + 1 + 339 + 1 + 13) (0 + 10 + 2701 + 26 + 2055) Q (F0 m 1302 ls [])) : W p l e room_1 s m #[Value.ref b] below meth c H locs (0 + 1 + 339 + 1 + 13) (0 + 10 + 2701 + 26 + 2055) Q (F0 m 535 ls []) := by
  have hbA : ¬ dkA z b := by unfold dkA; omega
  have hin : ∀ k : Nat, k < 7 → vp_in (0 + Int32.ofNat k) L := by
    intro k hk
    rw [hL]
    rcases (by omega : k = 0 ∨ k = 1 ∨ k = 2 ∨ k = 3 ∨ k = 4 ∨ k = 5 ∨ k = 6) with rfl | rfl | rfl | rfl | rfl | rfl | rfl <;> exact vp_in_iff.mpr ⟨by decide, by decide⟩
  refine lv_aload_n hx hb dL_law_535 rfl (lv_at hl 2 rfl) ?_
  refine dk_Vi (As := []) (rest := []) ⟨hx, hb, hml, hown, hts⟩ (c_X5_undo_0 l g z dkI0 (dkN_lit (0) rfl)) (cwV 0 hts gL_law_X5_undo rfl rfl rfl (by decide +kernel) ⟨Nat.le_of_ble_eq_true rfl, Nat.le_of_ble_eq_true rfl⟩) (dk_at0 hW) rfl hK hW hS rfl hl.1 rfl (Nat.le_of_ble_eq_true rfl) dL_law_536 ⟨Nat.le_of_ble_eq_true rfl, Nat.le_of_ble_eq_true rfl⟩ (fun v1 I1 H L hp1 hW hS => ?_)
  obtain ⟨dv1, hF1, -⟩ := hp1
  refine lv_aload_n hx hb dL_law_539 rfl (lv_at hl 1 rfl) ?_
  refine dk_Vi (As := []) (rest := [.int v1]) ⟨hx, hb, hml, hown, hts⟩ (c_X6_undo_0 l g z I1 (by rw [hF1 340 17 rfl]; exact dkN_lit (0) rfl)) (cwV 0 hts gL_law_X6_undo rfl rfl rfl (by decide +kernel) ⟨Nat.le_of_ble_eq_true rfl, Nat.le_of_ble_eq_true rfl⟩) (dk_at340 hW) rfl hK hW hS rfl hl.1 rfl (Nat.le_of_ble_eq_true rfl) dL_law_540 ⟨Nat.le_of_ble_eq_true rfl, Nat.le_of_ble_eq_true rfl⟩ (fun v2 I2 H L hp2 hW hS => ?_)
  obtain ⟨dv2, hF2, -⟩ := hp2
  refine lv_icmp_eq (tgt := 1302) hx hb dL_law_543 (by decide) (fun c9 => ?_) (fun c9 => ?_)
  · exact hend _ _ ls hS hl
  · exact absurd (Int32.toInt_inj.mp ((dkN_one dv1).trans (dkN_one dv2).symm)) c9

set_option maxHeartbeats 4000000 in
set_option maxRecDepth 100000 in
theorem k_dog {p : Program} {e : Env} {s : State} {m : MethodId} {below : List Frame} {meth : Method} {c : Code} (l : Launch) {b L z : Nat} {xs : Nat → Int32} {g : dkG} {Q : State → Prop} {H : Heap} {locs : List Loc} {ls : Array Slot} (hz0 : z = s.heap.size) (hx : p.tables.exec = Jvm.exec) (hb : c.code = code) (hml : c.maxLocals = 4) (hown : s.vm.findClass RL = some m.cls) (hts : ∀ w ∈ wsL_law, w.before #[Value.ref b] s = true) (hX : va_X b L xs s s.heap) (hbl : b < s.heap.size) (hL : L = 7) (hK : dkK g s) (hW : dkW g z dkI0 H) (hS : va_S (dkA z) s.heap H locs) (hl : lv_has ls 4 [(3, .int 0), (2, .ref (z + 340)), (1, .ref (z + 0)), (0, .ref b)]) (hend : ∀ (H : Heap) (locs : List Loc) (ls : Array Slot), va_S (dkA z) s.heap H locs → lv_has ls 4 [(3, .int 0), (2, .ref (z + 340)), (1, .ref (z + 0)), (0, .ref b)] → W p l e room_1 s m #[Value.ref b] below meth c H locs (0 + 1 + 339 + 1 + 13) (0 + 10 + 2701 + 26 + 2055) Q (F0 m 1302 ls [])) : W p l e room_1 s m #[Value.ref b] below meth c H locs (0 + 1 + 339 + 1 + 13) (0 + 10 + 2701 + 26 + 2055) Q (F0 m 548 ls []) := by
  have hbA : ¬ dkA z b := by unfold dkA; omega
  have hin : ∀ k : Nat, k < 7 → vp_in (0 + Int32.ofNat k) L := by
    intro k hk
    rw [hL]
    rcases (by omega : k = 0 ∨ k = 1 ∨ k = 2 ∨ k = 3 ∨ k = 4 ∨ k = 5 ∨ k = 6) with rfl | rfl | rfl | rfl | rfl | rfl | rfl <;> exact vp_in_iff.mpr ⟨by decide, by decide⟩
  obtain ⟨a1, ha1⟩ : ∃ y : Int32, xs (Int32.toNatClampNeg (0 + 1)) = y := ⟨_, rfl⟩
  obtain ⟨a2, ha2⟩ : ∃ y : Int32, xs (Int32.toNatClampNeg (0 + 2)) = y := ⟨_, rfl⟩
  refine lv_aload_n hx hb dL_law_548 rfl (lv_at hl 2 rfl) ?_
  refine lv_aload_n hx hb dL_law_549 rfl (lv_at hl 3 rfl) ?_
  refine lv_iload_n hx hb dL_law_550 rfl (lv_at hl 0 rfl) ?_
  refine lv_iconst (v := 1) hx hb dL_law_551 (by decide) ?_
  refine lv_iadd hx hb dL_law_552 ?_
  refine va_sld hx hb hX hbl hbA hS (hin 1 (by decide)) dL_law_553 ?_
  rw [ha1]
  refine lv_aload_n hx hb dL_law_554 rfl (lv_at hl 3 rfl) ?_
  refine lv_iload_n hx hb dL_law_555 rfl (lv_at hl 0 rfl) ?_
  refine lv_iconst (v := 2) hx hb dL_law_556 (by decide) ?_
  refine lv_iadd hx hb dL_law_557 ?_
  refine va_sld hx hb hX hbl hbA hS (hin 2 (by decide)) dL_law_558 ?_
  rw [ha2]
  refine dk_Vi (As := [.int a1, .int a2]) (rest := []) ⟨hx, hb, hml, hown, hts⟩ (c_X5_dog_0 l g z dkI0 a1 a2 (dkN_lit (0) rfl)) (cwV 2 hts gL_law_X5_dog rfl rfl rfl (by decide +kernel) ⟨Nat.le_of_ble_eq_true rfl, Nat.le_of_ble_eq_true rfl⟩) (dk_at0 hW) rfl hK hW hS rfl hl.1 rfl (Nat.le_of_ble_eq_true rfl) dL_law_559 ⟨Nat.le_of_ble_eq_true rfl, Nat.le_of_ble_eq_true rfl⟩ (fun v1 I1 H L hp1 hW hS => ?_)
  obtain ⟨dv1, hF1, -⟩ := hp1
  refine lv_aload_n hx hb dL_law_562 rfl (lv_at hl 1 rfl) ?_
  refine lv_aload_n hx hb dL_law_563 rfl (lv_at hl 3 rfl) ?_
  refine lv_iload_n hx hb dL_law_564 rfl (lv_at hl 0 rfl) ?_
  refine lv_iconst (v := 1) hx hb dL_law_565 (by decide) ?_
  refine lv_iadd hx hb dL_law_566 ?_
  refine va_sld hx hb hX hbl hbA hS (hin 1 (by decide)) dL_law_567 ?_
  rw [ha1]
  refine lv_aload_n hx hb dL_law_568 rfl (lv_at hl 3 rfl) ?_
  refine lv_iload_n hx hb dL_law_569 rfl (lv_at hl 0 rfl) ?_
  refine lv_iconst (v := 2) hx hb dL_law_570 (by decide) ?_
  refine lv_iadd hx hb dL_law_571 ?_
  refine va_sld hx hb hX hbl hbA hS (hin 2 (by decide)) dL_law_572 ?_
  rw [ha2]
  refine dk_Vi (As := [.int a1, .int a2]) (rest := [.int v1]) ⟨hx, hb, hml, hown, hts⟩ (c_X6_dog_0 l g z I1 a1 a2 (by rw [hF1 346 5 rfl]; exact dkN_lit (0) rfl)) (cwV 2 hts gL_law_X6_dog rfl rfl rfl (by decide +kernel) ⟨Nat.le_of_ble_eq_true rfl, Nat.le_of_ble_eq_true rfl⟩) (dk_at340 hW) rfl hK hW hS rfl hl.1 rfl (Nat.le_of_ble_eq_true rfl) dL_law_573 ⟨Nat.le_of_ble_eq_true rfl, Nat.le_of_ble_eq_true rfl⟩ (fun v2 I2 H L hp2 hW hS => ?_)
  obtain ⟨dv2, hF2, -⟩ := hp2
  refine lv_icmp_eq (tgt := 1302) hx hb dL_law_576 (by decide) (fun c9 => ?_) (fun c9 => ?_)
  · exact hend _ _ ls hS hl
  · exact absurd (Int32.toInt_inj.mp ((dkN_one dv1).trans (dkN_one dv2).symm)) c9

set_option maxHeartbeats 4000000 in
set_option maxRecDepth 100000 in
theorem k_person {p : Program} {e : Env} {s : State} {m : MethodId} {below : List Frame} {meth : Method} {c : Code} (l : Launch) {b L z : Nat} {xs : Nat → Int32} {g : dkG} {Q : State → Prop} {H : Heap} {locs : List Loc} {ls : Array Slot} (hz0 : z = s.heap.size) (hx : p.tables.exec = Jvm.exec) (hb : c.code = code) (hml : c.maxLocals = 4) (hown : s.vm.findClass RL = some m.cls) (hts : ∀ w ∈ wsL_law, w.before #[Value.ref b] s = true) (hX : va_X b L xs s s.heap) (hbl : b < s.heap.size) (hL : L = 7) (hK : dkK g s) (hW : dkW g z dkI0 H) (hS : va_S (dkA z) s.heap H locs) (hl : lv_has ls 4 [(3, .int 0), (2, .ref (z + 340)), (1, .ref (z + 0)), (0, .ref b)]) (hend : ∀ (H : Heap) (locs : List Loc) (ls : Array Slot), va_S (dkA z) s.heap H locs → lv_has ls 4 [(3, .int 0), (2, .ref (z + 340)), (1, .ref (z + 0)), (0, .ref b)] → W p l e room_1 s m #[Value.ref b] below meth c H locs (0 + 1 + 339 + 1 + 13) (0 + 10 + 2701 + 26 + 2055) Q (F0 m 1302 ls [])) : W p l e room_1 s m #[Value.ref b] below meth c H locs (0 + 1 + 339 + 1 + 13) (0 + 10 + 2701 + 26 + 2055) Q (F0 m 581 ls []) := by
  have hbA : ¬ dkA z b := by unfold dkA; omega
  have hin : ∀ k : Nat, k < 7 → vp_in (0 + Int32.ofNat k) L := by
    intro k hk
    rw [hL]
    rcases (by omega : k = 0 ∨ k = 1 ∨ k = 2 ∨ k = 3 ∨ k = 4 ∨ k = 5 ∨ k = 6) with rfl | rfl | rfl | rfl | rfl | rfl | rfl <;> exact vp_in_iff.mpr ⟨by decide, by decide⟩
  obtain ⟨a1, ha1⟩ : ∃ y : Int32, xs (Int32.toNatClampNeg (0 + 1)) = y := ⟨_, rfl⟩
  obtain ⟨a2, ha2⟩ : ∃ y : Int32, xs (Int32.toNatClampNeg (0 + 2)) = y := ⟨_, rfl⟩
  refine lv_aload_n hx hb dL_law_581 rfl (lv_at hl 2 rfl) ?_
  refine lv_aload_n hx hb dL_law_582 rfl (lv_at hl 3 rfl) ?_
  refine lv_iload_n hx hb dL_law_583 rfl (lv_at hl 0 rfl) ?_
  refine lv_iconst (v := 1) hx hb dL_law_584 (by decide) ?_
  refine lv_iadd hx hb dL_law_585 ?_
  refine va_sld hx hb hX hbl hbA hS (hin 1 (by decide)) dL_law_586 ?_
  rw [ha1]
  refine lv_aload_n hx hb dL_law_587 rfl (lv_at hl 3 rfl) ?_
  refine lv_iload_n hx hb dL_law_588 rfl (lv_at hl 0 rfl) ?_
  refine lv_iconst (v := 2) hx hb dL_law_589 (by decide) ?_
  refine lv_iadd hx hb dL_law_590 ?_
  refine va_sld hx hb hX hbl hbA hS (hin 2 (by decide)) dL_law_591 ?_
  rw [ha2]
  refine dk_Vi (As := [.int a1, .int a2]) (rest := []) ⟨hx, hb, hml, hown, hts⟩ (c_X5_person_0 l g z dkI0 a1 a2 (dkN_lit (0) rfl)) (cwV 2 hts gL_law_X5_person rfl rfl rfl (by decide +kernel) ⟨Nat.le_of_ble_eq_true rfl, Nat.le_of_ble_eq_true rfl⟩) (dk_at0 hW) rfl hK hW hS rfl hl.1 rfl (Nat.le_of_ble_eq_true rfl) dL_law_592 ⟨Nat.le_of_ble_eq_true rfl, Nat.le_of_ble_eq_true rfl⟩ (fun v1 I1 H L hp1 hW hS => ?_)
  obtain ⟨dv1, hF1, -⟩ := hp1
  refine lv_aload_n hx hb dL_law_595 rfl (lv_at hl 1 rfl) ?_
  refine lv_aload_n hx hb dL_law_596 rfl (lv_at hl 3 rfl) ?_
  refine lv_iload_n hx hb dL_law_597 rfl (lv_at hl 0 rfl) ?_
  refine lv_iconst (v := 1) hx hb dL_law_598 (by decide) ?_
  refine lv_iadd hx hb dL_law_599 ?_
  refine va_sld hx hb hX hbl hbA hS (hin 1 (by decide)) dL_law_600 ?_
  rw [ha1]
  refine lv_aload_n hx hb dL_law_601 rfl (lv_at hl 3 rfl) ?_
  refine lv_iload_n hx hb dL_law_602 rfl (lv_at hl 0 rfl) ?_
  refine lv_iconst (v := 2) hx hb dL_law_603 (by decide) ?_
  refine lv_iadd hx hb dL_law_604 ?_
  refine va_sld hx hb hX hbl hbA hS (hin 2 (by decide)) dL_law_605 ?_
  rw [ha2]
  refine dk_Vi (As := [.int a1, .int a2]) (rest := [.int v1]) ⟨hx, hb, hml, hown, hts⟩ (c_X6_person_0 l g z I1 a1 a2 (by rw [hF1 346 4 rfl]; exact dkN_lit (0) rfl)) (cwV 2 hts gL_law_X6_person rfl rfl rfl (by decide +kernel) ⟨Nat.le_of_ble_eq_true rfl, Nat.le_of_ble_eq_true rfl⟩) (dk_at340 hW) rfl hK hW hS rfl hl.1 rfl (Nat.le_of_ble_eq_true rfl) dL_law_606 ⟨Nat.le_of_ble_eq_true rfl, Nat.le_of_ble_eq_true rfl⟩ (fun v2 I2 H L hp2 hW hS => ?_)
  obtain ⟨dv2, hF2, -⟩ := hp2
  refine lv_icmp_eq (tgt := 1302) hx hb dL_law_609 (by decide) (fun c9 => ?_) (fun c9 => ?_)
  · exact hend _ _ ls hS hl
  · exact absurd (Int32.toInt_inj.mp ((dkN_one dv1).trans (dkN_one dv2).symm)) c9

set_option maxHeartbeats 4000000 in
set_option maxRecDepth 100000 in
theorem k_ahead {p : Program} {e : Env} {s : State} {m : MethodId} {below : List Frame} {meth : Method} {c : Code} (l : Launch) {b L z : Nat} {xs : Nat → Int32} {g : dkG} {Q : State → Prop} {H : Heap} {locs : List Loc} {ls : Array Slot} (hz0 : z = s.heap.size) (hx : p.tables.exec = Jvm.exec) (hb : c.code = code) (hml : c.maxLocals = 4) (hown : s.vm.findClass RL = some m.cls) (hts : ∀ w ∈ wsL_law, w.before #[Value.ref b] s = true) (hX : va_X b L xs s s.heap) (hbl : b < s.heap.size) (hL : L = 7) (hK : dkK g s) (hW : dkW g z dkI0 H) (hS : va_S (dkA z) s.heap H locs) (hl : lv_has ls 4 [(3, .int 0), (2, .ref (z + 340)), (1, .ref (z + 0)), (0, .ref b)]) (hend : ∀ (H : Heap) (locs : List Loc) (ls : Array Slot), va_S (dkA z) s.heap H locs → lv_has ls 4 [(3, .int 0), (2, .ref (z + 340)), (1, .ref (z + 0)), (0, .ref b)] → W p l e room_1 s m #[Value.ref b] below meth c H locs (0 + 1 + 339 + 1 + 13) (0 + 10 + 2701 + 26 + 2055) Q (F0 m 1302 ls [])) : W p l e room_1 s m #[Value.ref b] below meth c H locs (0 + 1 + 339 + 1 + 13) (0 + 10 + 2701 + 26 + 2055) Q (F0 m 614 ls []) := by
  have hbA : ¬ dkA z b := by unfold dkA; omega
  have hin : ∀ k : Nat, k < 7 → vp_in (0 + Int32.ofNat k) L := by
    intro k hk
    rw [hL]
    rcases (by omega : k = 0 ∨ k = 1 ∨ k = 2 ∨ k = 3 ∨ k = 4 ∨ k = 5 ∨ k = 6) with rfl | rfl | rfl | rfl | rfl | rfl | rfl <;> exact vp_in_iff.mpr ⟨by decide, by decide⟩
  obtain ⟨a1, ha1⟩ : ∃ y : Int32, xs (Int32.toNatClampNeg (0 + 1)) = y := ⟨_, rfl⟩
  obtain ⟨a2, ha2⟩ : ∃ y : Int32, xs (Int32.toNatClampNeg (0 + 2)) = y := ⟨_, rfl⟩
  refine lv_aload_n hx hb dL_law_614 rfl (lv_at hl 2 rfl) ?_
  refine lv_aload_n hx hb dL_law_615 rfl (lv_at hl 3 rfl) ?_
  refine lv_iload_n hx hb dL_law_616 rfl (lv_at hl 0 rfl) ?_
  refine lv_iconst (v := 1) hx hb dL_law_617 (by decide) ?_
  refine lv_iadd hx hb dL_law_618 ?_
  refine va_sld hx hb hX hbl hbA hS (hin 1 (by decide)) dL_law_619 ?_
  rw [ha1]
  refine lv_aload_n hx hb dL_law_620 rfl (lv_at hl 3 rfl) ?_
  refine lv_iload_n hx hb dL_law_621 rfl (lv_at hl 0 rfl) ?_
  refine lv_iconst (v := 2) hx hb dL_law_622 (by decide) ?_
  refine lv_iadd hx hb dL_law_623 ?_
  refine va_sld hx hb hX hbl hbA hS (hin 2 (by decide)) dL_law_624 ?_
  rw [ha2]
  refine dk_Vi (As := [.int a1, .int a2]) (rest := []) ⟨hx, hb, hml, hown, hts⟩ (c_X5_ahead_0 l g z dkI0 a1 a2 (dkN_lit (0) rfl)) (cwV 2 hts gL_law_X5_ahead rfl rfl rfl (by decide +kernel) ⟨Nat.le_of_ble_eq_true rfl, Nat.le_of_ble_eq_true rfl⟩) (dk_at0 hW) rfl hK hW hS rfl hl.1 rfl (Nat.le_of_ble_eq_true rfl) dL_law_625 ⟨Nat.le_of_ble_eq_true rfl, Nat.le_of_ble_eq_true rfl⟩ (fun v1 I1 H L hp1 hW hS => ?_)
  obtain ⟨dv1, hF1, -⟩ := hp1
  refine lv_aload_n hx hb dL_law_628 rfl (lv_at hl 1 rfl) ?_
  refine lv_aload_n hx hb dL_law_629 rfl (lv_at hl 3 rfl) ?_
  refine lv_iload_n hx hb dL_law_630 rfl (lv_at hl 0 rfl) ?_
  refine lv_iconst (v := 1) hx hb dL_law_631 (by decide) ?_
  refine lv_iadd hx hb dL_law_632 ?_
  refine va_sld hx hb hX hbl hbA hS (hin 1 (by decide)) dL_law_633 ?_
  rw [ha1]
  refine lv_aload_n hx hb dL_law_634 rfl (lv_at hl 3 rfl) ?_
  refine lv_iload_n hx hb dL_law_635 rfl (lv_at hl 0 rfl) ?_
  refine lv_iconst (v := 2) hx hb dL_law_636 (by decide) ?_
  refine lv_iadd hx hb dL_law_637 ?_
  refine va_sld hx hb hX hbl hbA hS (hin 2 (by decide)) dL_law_638 ?_
  rw [ha2]
  refine dk_Vi (As := [.int a1, .int a2]) (rest := [.int v1]) ⟨hx, hb, hml, hown, hts⟩ (c_X6_ahead_0 l g z I1 a1 a2 (by rw [hF1 346 5 rfl]; exact dkN_lit (0) rfl)) (cwV 2 hts gL_law_X6_ahead rfl rfl rfl (by decide +kernel) ⟨Nat.le_of_ble_eq_true rfl, Nat.le_of_ble_eq_true rfl⟩) (dk_at340 hW) rfl hK hW hS rfl hl.1 rfl (Nat.le_of_ble_eq_true rfl) dL_law_639 ⟨Nat.le_of_ble_eq_true rfl, Nat.le_of_ble_eq_true rfl⟩ (fun v2 I2 H L hp2 hW hS => ?_)
  obtain ⟨dv2, hF2, -⟩ := hp2
  refine lv_icmp_eq (tgt := 1302) hx hb dL_law_642 (by decide) (fun c9 => ?_) (fun c9 => ?_)
  · exact hend _ _ ls hS hl
  · exact absurd (Int32.toInt_inj.mp ((dkN_one dv1).trans (dkN_one dv2).symm)) c9

set_option maxHeartbeats 4000000 in
set_option maxRecDepth 100000 in
theorem k_goes {p : Program} {e : Env} {s : State} {m : MethodId} {below : List Frame} {meth : Method} {c : Code} (l : Launch) {b L z : Nat} {xs : Nat → Int32} {g : dkG} {Q : State → Prop} {H : Heap} {locs : List Loc} {ls : Array Slot} (hz0 : z = s.heap.size) (hx : p.tables.exec = Jvm.exec) (hb : c.code = code) (hml : c.maxLocals = 4) (hown : s.vm.findClass RL = some m.cls) (hts : ∀ w ∈ wsL_law, w.before #[Value.ref b] s = true) (hX : va_X b L xs s s.heap) (hbl : b < s.heap.size) (hL : L = 7) (hK : dkK g s) (hW : dkW g z dkI0 H) (hS : va_S (dkA z) s.heap H locs) (hl : lv_has ls 4 [(3, .int 0), (2, .ref (z + 340)), (1, .ref (z + 0)), (0, .ref b)]) (hend : ∀ (H : Heap) (locs : List Loc) (ls : Array Slot), va_S (dkA z) s.heap H locs → lv_has ls 4 [(3, .int 0), (2, .ref (z + 340)), (1, .ref (z + 0)), (0, .ref b)] → W p l e room_1 s m #[Value.ref b] below meth c H locs (0 + 1 + 339 + 1 + 13) (0 + 10 + 2701 + 26 + 2055) Q (F0 m 1302 ls [])) : W p l e room_1 s m #[Value.ref b] below meth c H locs (0 + 1 + 339 + 1 + 13) (0 + 10 + 2701 + 26 + 2055) Q (F0 m 647 ls []) := by
  have hbA : ¬ dkA z b := by unfold dkA; omega
  have hin : ∀ k : Nat, k < 7 → vp_in (0 + Int32.ofNat k) L := by
    intro k hk
    rw [hL]
    rcases (by omega : k = 0 ∨ k = 1 ∨ k = 2 ∨ k = 3 ∨ k = 4 ∨ k = 5 ∨ k = 6) with rfl | rfl | rfl | rfl | rfl | rfl | rfl <;> exact vp_in_iff.mpr ⟨by decide, by decide⟩
  obtain ⟨a1, ha1⟩ : ∃ y : Int32, xs (Int32.toNatClampNeg (0 + 1)) = y := ⟨_, rfl⟩
  obtain ⟨a2, ha2⟩ : ∃ y : Int32, xs (Int32.toNatClampNeg (0 + 2)) = y := ⟨_, rfl⟩
  refine lv_aload_n hx hb dL_law_647 rfl (lv_at hl 2 rfl) ?_
  refine lv_aload_n hx hb dL_law_648 rfl (lv_at hl 3 rfl) ?_
  refine lv_iload_n hx hb dL_law_649 rfl (lv_at hl 0 rfl) ?_
  refine lv_iconst (v := 1) hx hb dL_law_650 (by decide) ?_
  refine lv_iadd hx hb dL_law_651 ?_
  refine va_sld hx hb hX hbl hbA hS (hin 1 (by decide)) dL_law_652 ?_
  rw [ha1]
  refine lv_aload_n hx hb dL_law_653 rfl (lv_at hl 3 rfl) ?_
  refine lv_iload_n hx hb dL_law_654 rfl (lv_at hl 0 rfl) ?_
  refine lv_iconst (v := 2) hx hb dL_law_655 (by decide) ?_
  refine lv_iadd hx hb dL_law_656 ?_
  refine va_sld hx hb hX hbl hbA hS (hin 2 (by decide)) dL_law_657 ?_
  rw [ha2]
  refine dk_Vi (As := [.int a1, .int a2]) (rest := []) ⟨hx, hb, hml, hown, hts⟩ (c_X5_goes_0 l g z dkI0 a1 a2 (dkN_lit (0) rfl)) (cwV 2 hts gL_law_X5_goes rfl rfl rfl (by decide +kernel) ⟨Nat.le_of_ble_eq_true rfl, Nat.le_of_ble_eq_true rfl⟩) (dk_at0 hW) rfl hK hW hS rfl hl.1 rfl (Nat.le_of_ble_eq_true rfl) dL_law_658 ⟨Nat.le_of_ble_eq_true rfl, Nat.le_of_ble_eq_true rfl⟩ (fun v1 I1 H L hp1 hW hS => ?_)
  obtain ⟨dv1, hF1, -⟩ := hp1
  refine lv_aload_n hx hb dL_law_661 rfl (lv_at hl 1 rfl) ?_
  refine lv_aload_n hx hb dL_law_662 rfl (lv_at hl 3 rfl) ?_
  refine lv_iload_n hx hb dL_law_663 rfl (lv_at hl 0 rfl) ?_
  refine lv_iconst (v := 1) hx hb dL_law_664 (by decide) ?_
  refine lv_iadd hx hb dL_law_665 ?_
  refine va_sld hx hb hX hbl hbA hS (hin 1 (by decide)) dL_law_666 ?_
  rw [ha1]
  refine lv_aload_n hx hb dL_law_667 rfl (lv_at hl 3 rfl) ?_
  refine lv_iload_n hx hb dL_law_668 rfl (lv_at hl 0 rfl) ?_
  refine lv_iconst (v := 2) hx hb dL_law_669 (by decide) ?_
  refine lv_iadd hx hb dL_law_670 ?_
  refine va_sld hx hb hX hbl hbA hS (hin 2 (by decide)) dL_law_671 ?_
  rw [ha2]
  refine dk_Vi (As := [.int a1, .int a2]) (rest := [.int v1]) ⟨hx, hb, hml, hown, hts⟩ (c_X6_goes_0 l g z I1 a1 a2 (by rw [hF1 346 4 rfl]; exact dkN_lit (0) rfl)) (cwV 2 hts gL_law_X6_goes rfl rfl rfl (by decide +kernel) ⟨Nat.le_of_ble_eq_true rfl, Nat.le_of_ble_eq_true rfl⟩) (dk_at340 hW) rfl hK hW hS rfl hl.1 rfl (Nat.le_of_ble_eq_true rfl) dL_law_672 ⟨Nat.le_of_ble_eq_true rfl, Nat.le_of_ble_eq_true rfl⟩ (fun v2 I2 H L hp2 hW hS => ?_)
  obtain ⟨dv2, hF2, -⟩ := hp2
  refine lv_icmp_eq (tgt := 1302) hx hb dL_law_675 (by decide) (fun c9 => ?_) (fun c9 => ?_)
  · exact hend _ _ ls hS hl
  · exact absurd (Int32.toInt_inj.mp ((dkN_one dv1).trans (dkN_one dv2).symm)) c9

set_option maxHeartbeats 4000000 in
set_option maxRecDepth 100000 in
theorem k_crowned {p : Program} {e : Env} {s : State} {m : MethodId} {below : List Frame} {meth : Method} {c : Code} (l : Launch) {b L z : Nat} {xs : Nat → Int32} {g : dkG} {Q : State → Prop} {H : Heap} {locs : List Loc} {ls : Array Slot} (hz0 : z = s.heap.size) (hx : p.tables.exec = Jvm.exec) (hb : c.code = code) (hml : c.maxLocals = 4) (hown : s.vm.findClass RL = some m.cls) (hts : ∀ w ∈ wsL_law, w.before #[Value.ref b] s = true) (hX : va_X b L xs s s.heap) (hbl : b < s.heap.size) (hL : L = 7) (hK : dkK g s) (hW : dkW g z dkI0 H) (hS : va_S (dkA z) s.heap H locs) (hl : lv_has ls 4 [(3, .int 0), (2, .ref (z + 340)), (1, .ref (z + 0)), (0, .ref b)]) (hend : ∀ (H : Heap) (locs : List Loc) (ls : Array Slot), va_S (dkA z) s.heap H locs → lv_has ls 4 [(3, .int 0), (2, .ref (z + 340)), (1, .ref (z + 0)), (0, .ref b)] → W p l e room_1 s m #[Value.ref b] below meth c H locs (0 + 1 + 339 + 1 + 13) (0 + 10 + 2701 + 26 + 2055) Q (F0 m 1302 ls [])) : W p l e room_1 s m #[Value.ref b] below meth c H locs (0 + 1 + 339 + 1 + 13) (0 + 10 + 2701 + 26 + 2055) Q (F0 m 680 ls []) := by
  have hbA : ¬ dkA z b := by unfold dkA; omega
  have hin : ∀ k : Nat, k < 7 → vp_in (0 + Int32.ofNat k) L := by
    intro k hk
    rw [hL]
    rcases (by omega : k = 0 ∨ k = 1 ∨ k = 2 ∨ k = 3 ∨ k = 4 ∨ k = 5 ∨ k = 6) with rfl | rfl | rfl | rfl | rfl | rfl | rfl <;> exact vp_in_iff.mpr ⟨by decide, by decide⟩
  obtain ⟨a1, ha1⟩ : ∃ y : Int32, xs (Int32.toNatClampNeg (0 + 1)) = y := ⟨_, rfl⟩
  refine lv_aload_n hx hb dL_law_680 rfl (lv_at hl 2 rfl) ?_
  refine lv_aload_n hx hb dL_law_681 rfl (lv_at hl 3 rfl) ?_
  refine lv_iload_n hx hb dL_law_682 rfl (lv_at hl 0 rfl) ?_
  refine lv_iconst (v := 1) hx hb dL_law_683 (by decide) ?_
  refine lv_iadd hx hb dL_law_684 ?_
  refine va_sld hx hb hX hbl hbA hS (hin 1 (by decide)) dL_law_685 ?_
  rw [ha1]
  refine dk_Vi (As := [.int a1]) (rest := []) ⟨hx, hb, hml, hown, hts⟩ (c_X5_crowned_0 l g z dkI0 a1 (dkN_lit (0) rfl)) (cwV 1 hts gL_law_X5_crowned rfl rfl rfl (by decide +kernel) ⟨Nat.le_of_ble_eq_true rfl, Nat.le_of_ble_eq_true rfl⟩) (dk_at0 hW) rfl hK hW hS rfl hl.1 rfl (Nat.le_of_ble_eq_true rfl) dL_law_686 ⟨Nat.le_of_ble_eq_true rfl, Nat.le_of_ble_eq_true rfl⟩ (fun v1 I1 H L hp1 hW hS => ?_)
  obtain ⟨dv1, hF1, -⟩ := hp1
  refine lv_aload_n hx hb dL_law_689 rfl (lv_at hl 1 rfl) ?_
  refine lv_aload_n hx hb dL_law_690 rfl (lv_at hl 3 rfl) ?_
  refine lv_iload_n hx hb dL_law_691 rfl (lv_at hl 0 rfl) ?_
  refine lv_iconst (v := 1) hx hb dL_law_692 (by decide) ?_
  refine lv_iadd hx hb dL_law_693 ?_
  refine va_sld hx hb hX hbl hbA hS (hin 1 (by decide)) dL_law_694 ?_
  rw [ha1]
  refine dk_Vi (As := [.int a1]) (rest := [.int v1]) ⟨hx, hb, hml, hown, hts⟩ (c_X6_crowned_0 l g z I1 a1 (by rw [hF1 346 0 rfl]; exact dkN_lit (0) rfl)) (cwV 1 hts gL_law_X6_crowned rfl rfl rfl (by decide +kernel) ⟨Nat.le_of_ble_eq_true rfl, Nat.le_of_ble_eq_true rfl⟩) (dk_at340 hW) rfl hK hW hS rfl hl.1 rfl (Nat.le_of_ble_eq_true rfl) dL_law_695 ⟨Nat.le_of_ble_eq_true rfl, Nat.le_of_ble_eq_true rfl⟩ (fun v2 I2 H L hp2 hW hS => ?_)
  obtain ⟨dv2, hF2, -⟩ := hp2
  refine lv_icmp_eq (tgt := 1302) hx hb dL_law_698 (by decide) (fun c9 => ?_) (fun c9 => ?_)
  · exact hend _ _ ls hS hl
  · exact absurd (Int32.toInt_inj.mp ((dkN_one dv1).trans (dkN_one dv2).symm)) c9

set_option maxHeartbeats 4000000 in
set_option maxRecDepth 100000 in
theorem k_heir {p : Program} {e : Env} {s : State} {m : MethodId} {below : List Frame} {meth : Method} {c : Code} (l : Launch) {b L z : Nat} {xs : Nat → Int32} {g : dkG} {Q : State → Prop} {H : Heap} {locs : List Loc} {ls : Array Slot} (hz0 : z = s.heap.size) (hx : p.tables.exec = Jvm.exec) (hb : c.code = code) (hml : c.maxLocals = 4) (hown : s.vm.findClass RL = some m.cls) (hts : ∀ w ∈ wsL_law, w.before #[Value.ref b] s = true) (hX : va_X b L xs s s.heap) (hbl : b < s.heap.size) (hL : L = 7) (hK : dkK g s) (hW : dkW g z dkI0 H) (hS : va_S (dkA z) s.heap H locs) (hl : lv_has ls 4 [(3, .int 0), (2, .ref (z + 340)), (1, .ref (z + 0)), (0, .ref b)]) (hend : ∀ (H : Heap) (locs : List Loc) (ls : Array Slot), va_S (dkA z) s.heap H locs → lv_has ls 4 [(3, .int 0), (2, .ref (z + 340)), (1, .ref (z + 0)), (0, .ref b)] → W p l e room_1 s m #[Value.ref b] below meth c H locs (0 + 1 + 339 + 1 + 13) (0 + 10 + 2701 + 26 + 2055) Q (F0 m 1302 ls [])) : W p l e room_1 s m #[Value.ref b] below meth c H locs (0 + 1 + 339 + 1 + 13) (0 + 10 + 2701 + 26 + 2055) Q (F0 m 703 ls []) := by
  have hbA : ¬ dkA z b := by unfold dkA; omega
  have hin : ∀ k : Nat, k < 7 → vp_in (0 + Int32.ofNat k) L := by
    intro k hk
    rw [hL]
    rcases (by omega : k = 0 ∨ k = 1 ∨ k = 2 ∨ k = 3 ∨ k = 4 ∨ k = 5 ∨ k = 6) with rfl | rfl | rfl | rfl | rfl | rfl | rfl <;> exact vp_in_iff.mpr ⟨by decide, by decide⟩
  obtain ⟨a1, ha1⟩ : ∃ y : Int32, xs (Int32.toNatClampNeg (0 + 1)) = y := ⟨_, rfl⟩
  refine lv_aload_n hx hb dL_law_703 rfl (lv_at hl 2 rfl) ?_
  refine lv_aload_n hx hb dL_law_704 rfl (lv_at hl 3 rfl) ?_
  refine lv_iload_n hx hb dL_law_705 rfl (lv_at hl 0 rfl) ?_
  refine lv_iconst (v := 1) hx hb dL_law_706 (by decide) ?_
  refine lv_iadd hx hb dL_law_707 ?_
  refine va_sld hx hb hX hbl hbA hS (hin 1 (by decide)) dL_law_708 ?_
  rw [ha1]
  refine dk_Vi (As := [.int a1]) (rest := []) ⟨hx, hb, hml, hown, hts⟩ (c_X5_heir_0 l g z dkI0 a1 (dkN_lit (0) rfl)) (cwV 1 hts gL_law_X5_heir rfl rfl rfl (by decide +kernel) ⟨Nat.le_of_ble_eq_true rfl, Nat.le_of_ble_eq_true rfl⟩) (dk_at0 hW) rfl hK hW hS rfl hl.1 rfl (Nat.le_of_ble_eq_true rfl) dL_law_709 ⟨Nat.le_of_ble_eq_true rfl, Nat.le_of_ble_eq_true rfl⟩ (fun v1 I1 H L hp1 hW hS => ?_)
  obtain ⟨dv1, hF1, -⟩ := hp1
  refine lv_aload_n hx hb dL_law_712 rfl (lv_at hl 1 rfl) ?_
  refine lv_aload_n hx hb dL_law_713 rfl (lv_at hl 3 rfl) ?_
  refine lv_iload_n hx hb dL_law_714 rfl (lv_at hl 0 rfl) ?_
  refine lv_iconst (v := 1) hx hb dL_law_715 (by decide) ?_
  refine lv_iadd hx hb dL_law_716 ?_
  refine va_sld hx hb hX hbl hbA hS (hin 1 (by decide)) dL_law_717 ?_
  rw [ha1]
  refine dk_Vi (As := [.int a1]) (rest := [.int v1]) ⟨hx, hb, hml, hown, hts⟩ (c_X6_heir_0 l g z I1 a1 (by rw [hF1 346 4 rfl]; exact dkN_lit (0) rfl)) (cwV 1 hts gL_law_X6_heir rfl rfl rfl (by decide +kernel) ⟨Nat.le_of_ble_eq_true rfl, Nat.le_of_ble_eq_true rfl⟩) (dk_at340 hW) rfl hK hW hS rfl hl.1 rfl (Nat.le_of_ble_eq_true rfl) dL_law_718 ⟨Nat.le_of_ble_eq_true rfl, Nat.le_of_ble_eq_true rfl⟩ (fun v2 I2 H L hp2 hW hS => ?_)
  obtain ⟨dv2, hF2, -⟩ := hp2
  refine lv_icmp_eq (tgt := 1302) hx hb dL_law_721 (by decide) (fun c9 => ?_) (fun c9 => ?_)
  · exact hend _ _ ls hS hl
  · exact absurd (Int32.toInt_inj.mp ((dkN_one dv1).trans (dkN_one dv2).symm)) c9
