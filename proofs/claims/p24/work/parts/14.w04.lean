/-! PlantServerLaw.cell -/
theorem dL_cell_0 : decode cL_cell 0 = .ok (.iload_n 1, 1) := by decide +kernel
theorem dL_cell_1 : decode cL_cell 1 = .ok (.aload_n 0, 1) := by decide +kernel
theorem dL_cell_2 : decode cL_cell 2 = .ok (.arraylength, 1) := by decide +kernel
theorem dL_cell_3 : decode cL_cell 3 = .ok (.if_icmp .ge 9, 3) := by decide +kernel
theorem dL_cell_6 : decode cL_cell 6 = .ok (.aload_n 0, 1) := by decide +kernel
theorem dL_cell_7 : decode cL_cell 7 = .ok (.iload_n 1, 1) := by decide +kernel
theorem dL_cell_8 : decode cL_cell 8 = .ok (.iaload, 1) := by decide +kernel
theorem dL_cell_9 : decode cL_cell 9 = .ok (.goto 10, 3) := by decide +kernel
theorem dL_cell_12 : decode cL_cell 12 = .ok (.ldc 7, 2) := by decide +kernel
theorem dL_cell_14 : decode cL_cell 14 = .ok (.iload_n 1, 1) := by decide +kernel
theorem dL_cell_15 : decode cL_cell 15 = .ok (.bipush 8, 2) := by decide +kernel
theorem dL_cell_17 : decode cL_cell 17 = .ok (.iadd, 1) := by decide +kernel
theorem dL_cell_18 : decode cL_cell 18 = .ok (.imul, 1) := by decide +kernel
theorem dL_cell_19 : decode cL_cell 19 = .ok (.ireturn, 1) := by decide +kernel
abbrev rmL_cell : Room := { frames := 0, cells := 0, slots := 0, locals := 0 }
theorem hdL_cell : yL_cell.cls ≠ "java/lang/invoke/MethodHandle" ∧ yL_cell.cls ≠ "java/lang/invoke/VarHandle" ∧ (parseMethodDescriptor yL_cell.desc).map (fun d => d.parameters.length) = some 2 := by decide +kernel
set_option maxHeartbeats 4000000 in
set_option maxRecDepth 20000 in
theorem mL_cell (l : Launch) (hl : l.stackTraces = false) (G : xG) (ρ : Nm → Nat) (p2 : Int32) (σ : PH) (Q : Int32 → PH → Prop) (h : wL_cell (gL G) (gx G) p2 σ Q) : xMet l yL_cell (.code yL_cell cL_cell 2 (some .int)) rmL_cell G ρ σ [.ref (gb G), .int p2] (eI ρ Q) xNo := by
  refine xMet.of hl (by decide +kernel) (Nat.le_of_ble_eq_true rfl) (fun X hC hr hn htab h0 => ?_)
  have hC : xC G X "PlantServerLaw" cL_cell 2 rmL_cell := hC
  unfold wL_cell at h
  refine xJ.loc (L' := [(0, .ref (gb G)), (1, .int p2)]) rfl ?_
  refine x_iload_n hC 1 rfl dL_cell_0 ?_
  refine x_aload_n hC 0 rfl dL_cell_1 ?_
  refine x_slen hC hC.scr dL_cell_2 ?_
  refine x_icmp_ge (tgt := 12) hC dL_cell_3 (by decide) (fun c1 => ?_) (fun c1 => ?_)
  · have h := h.1 c1
    refine x_ldc (v := 1205585893) hC q80 dL_cell_12 ?_
    refine x_iload_n hC 1 rfl dL_cell_14 ?_
    refine x_bipush (v := 8) hC dL_cell_15 (by decide) ?_
    refine x_iadd hC dL_cell_17 ?_
    refine x_imul hC dL_cell_18 ?_
    exact x_iret hC hr dL_cell_19 (by decide) (by decide) ⟨rfl, _, rfl, h⟩
  · have h := h.2 c1
    refine x_aload_n hC 0 rfl dL_cell_6 ?_
    refine x_iload_n hC 1 rfl dL_cell_7 ?_
    obtain ⟨v1, h⟩ := h
    refine x_sld hC hC.scr v1 dL_cell_8 ?_
    refine x_goto (tgt := 19) hC dL_cell_9 (by decide) ?_
    exact x_iret hC hr dL_cell_19 (by decide) (by decide) ⟨rfl, _, rfl, h⟩
/-! PlantServerLaw.low -/
theorem dL_low_0 : decode cL_low 0 = .ok (.iload_n 0, 1) := by decide +kernel
theorem dL_low_1 : decode cL_low 1 = .ok (.iconst 1, 1) := by decide +kernel
theorem dL_low_2 : decode cL_low 2 = .ok (.iushr, 1) := by decide +kernel
theorem dL_low_3 : decode cL_low 3 = .ok (.iload_n 1, 1) := by decide +kernel
theorem dL_low_4 : decode cL_low 4 = .ok (.irem, 1) := by decide +kernel
theorem dL_low_5 : decode cL_low 5 = .ok (.ireturn, 1) := by decide +kernel
abbrev rmL_low : Room := { frames := 0, cells := 0, slots := 0, locals := 0 }
theorem hdL_low : yL_low.cls ≠ "java/lang/invoke/MethodHandle" ∧ yL_low.cls ≠ "java/lang/invoke/VarHandle" ∧ (parseMethodDescriptor yL_low.desc).map (fun d => d.parameters.length) = some 2 := by decide +kernel
set_option maxHeartbeats 4000000 in
set_option maxRecDepth 20000 in
theorem mL_low (l : Launch) (hl : l.stackTraces = false) (G : xG) (ρ : Nm → Nat) (p1 : Int32) (p2 : Int32) (σ : PH) (Q : Int32 → PH → Prop) (h : wL_low p1 p2 σ Q) : xMet l yL_low (.code yL_low cL_low 2 (some .int)) rmL_low G ρ σ [.int p1, .int p2] (eI ρ Q) xNo := by
  refine xMet.of hl (by decide +kernel) (Nat.le_of_ble_eq_true rfl) (fun X hC hr hn htab h0 => ?_)
  have hC : xC G X "PlantServerLaw" cL_low 2 rmL_low := hC
  unfold wL_low at h
  refine xJ.loc (L' := [(0, .int p1), (1, .int p2)]) rfl ?_
  refine x_iload_n hC 0 rfl dL_low_0 ?_
  refine x_iconst (v := 1) hC dL_low_1 (by decide) ?_
  refine x_iushr hC dL_low_2 ?_
  refine x_iload_n hC 1 rfl dL_low_3 ?_
  obtain ⟨nz1, h⟩ := h
  refine x_irem hC nz1 dL_low_4 ?_
  exact x_iret hC hr dL_low_5 (by decide) (by decide) ⟨rfl, _, rfl, h⟩
/-! PlantServer$Timer.<init> -/
theorem dX5_init_0 : decode cX5_init 0 = .ok (.aload_n 0, 1) := by decide +kernel
theorem dX5_init_1 : decode cX5_init 1 = .ok (.invokespecial 1, 3) := by decide +kernel
theorem dX5_init_4 : decode cX5_init 4 = .ok (.aload_n 0, 1) := by decide +kernel
theorem dX5_init_5 : decode cX5_init 5 = .ok (.iload_n 1, 1) := by decide +kernel
theorem dX5_init_6 : decode cX5_init 6 = .ok (.putfield 7, 3) := by decide +kernel
theorem dX5_init_9 : decode cX5_init 9 = .ok (.aload_n 0, 1) := by decide +kernel
theorem dX5_init_10 : decode cX5_init 10 = .ok (.iload_n 1, 1) := by decide +kernel
theorem dX5_init_11 : decode cX5_init 11 = .ok (.putfield 13, 3) := by decide +kernel
theorem dX5_init_14 : decode cX5_init 14 = .ok (.return_, 1) := by decide +kernel
abbrev rm5_init : Room := { frames := 1, cells := 0, slots := 0, locals := 20 }
theorem hd5_init : yX5_init.cls ≠ "java/lang/invoke/MethodHandle" ∧ yX5_init.cls ≠ "java/lang/invoke/VarHandle" ∧ (parseMethodDescriptor yX5_init.desc).map (fun d => d.parameters.length) = some 1 := by decide +kernel
set_option maxHeartbeats 4000000 in
set_option maxRecDepth 20000 in
theorem m5_init (l : Launch) (hl : l.stackTraces = false) (G : xG) (ρ : Nm → Nat) (this : Nm) (p1 : Int32) (σ : PH) (Q : PH → Prop) (h : w5_init this p1 σ Q) : xMet l yX5_init (.code yX5_init cX5_init 2 none) rm5_init G ρ σ [.ref (ρ this), .int p1] (eV ρ Q) xNo := by
  refine xMet.of hl (by decide +kernel) (Nat.le_of_ble_eq_true rfl) (fun X hC hr hn htab h0 => ?_)
  have hC : xC G X "PlantServer$Timer" cX5_init 2 rm5_init := hC
  unfold w5_init at h
  refine xJ.loc (L' := [(0, .ref (ρ this)), (1, .int p1)]) rfl ?_
  refine x_aload_n hC 0 rfl dX5_init_0 ?_
  refine x_oinit hC q197 q22 q23 (by decide) (by first | exact Nat.le_of_ble_eq_true rfl | (simp [rv_cat]; done) | (simp (decide := true) [rv_cat, cat_ref, cat_int]; done)) dX5_init_1 ?_
  refine x_aload_n hC 0 rfl dX5_init_4 ?_
  refine x_iload_n hC 1 rfl dX5_init_5 ?_
  obtain ⟨k1, h⟩ := h
  refine x_putIF (n0 := this) hC (ci := 5) (T := TX5) (N := 2) (C := RX5) 0 k1 rfl rfl (by decide) rfl q198 rfl rfl hn (tyX5_ok 0 (by decide)) dX5_init_6 ?_
  refine xJ.nmH (fun σ1 e1 => ?_)
  have h := h σ1 e1
  have r1 : hR σ1 = hR σ ∧ hL σ1 = hL σ := by rw [e1]; exact ⟨rfl, rfl⟩
  refine x_aload_n hC 0 rfl dX5_init_9 ?_
  refine x_iload_n hC 1 rfl dX5_init_10 ?_
  have k2 : hK σ1 this = 6 := by rw [e1]; exact k1
  refine x_putI (n0 := this) hC (ci := 5) (T := TX5) (N := 2) (C := RX5) 1 k2 rfl rfl (by decide) rfl q200 rfl (tyX5_ok 1 (by decide)) dX5_init_11 ?_
  refine xJ.nmH (fun σ2 e2 => ?_)
  have h := h σ2 e2
  have r2 : hR σ2 = hR σ ∧ hL σ2 = hL σ := by rw [e2]; exact ⟨r1.1, r1.2⟩
  exact x_vret hC hr dX5_init_14 (by decide) (by decide) ⟨rfl, rfl, h⟩
/-! PlantServer$Subscription.<init> -/
theorem dX4_init_0 : decode cX4_init 0 = .ok (.aload_n 0, 1) := by decide +kernel
theorem dX4_init_1 : decode cX4_init 1 = .ok (.invokespecial 3, 3) := by decide +kernel
theorem dX4_init_4 : decode cX4_init 4 = .ok (.aload_n 0, 1) := by decide +kernel
theorem dX4_init_5 : decode cX4_init 5 = .ok (.bipush 16, 2) := by decide +kernel
theorem dX4_init_7 : decode cX4_init 7 = .ok (.anewarray 9, 3) := by decide +kernel
theorem dX4_init_10 : decode cX4_init 10 = .ok (.putfield 11, 3) := by decide +kernel
theorem dX4_init_13 : decode cX4_init 13 = .ok (.aload_n 0, 1) := by decide +kernel
theorem dX4_init_14 : decode cX4_init 14 = .ok (.iconst 5, 1) := by decide +kernel
theorem dX4_init_15 : decode cX4_init 15 = .ok (.anewarray 17, 3) := by decide +kernel
theorem dX4_init_18 : decode cX4_init 18 = .ok (.putfield 19, 3) := by decide +kernel
theorem dX4_init_21 : decode cX4_init 21 = .ok (.aload_n 0, 1) := by decide +kernel
theorem dX4_init_22 : decode cX4_init 22 = .ok (.iconst 1, 1) := by decide +kernel
theorem dX4_init_23 : decode cX4_init 23 = .ok (.putfield 23, 3) := by decide +kernel
theorem dX4_init_26 : decode cX4_init 26 = .ok (.aload_n 0, 1) := by decide +kernel
theorem dX4_init_27 : decode cX4_init 27 = .ok (.iconst 0, 1) := by decide +kernel
theorem dX4_init_28 : decode cX4_init 28 = .ok (.putfield 27, 3) := by decide +kernel
theorem dX4_init_31 : decode cX4_init 31 = .ok (.aload_n 0, 1) := by decide +kernel
theorem dX4_init_32 : decode cX4_init 32 = .ok (.iconst 0, 1) := by decide +kernel
theorem dX4_init_33 : decode cX4_init 33 = .ok (.putfield 31, 3) := by decide +kernel
theorem dX4_init_36 : decode cX4_init 36 = .ok (.aload_n 0, 1) := by decide +kernel
theorem dX4_init_37 : decode cX4_init 37 = .ok (.iconst 0, 1) := by decide +kernel
theorem dX4_init_38 : decode cX4_init 38 = .ok (.putfield 34, 3) := by decide +kernel
theorem dX4_init_41 : decode cX4_init 41 = .ok (.aload_n 0, 1) := by decide +kernel
theorem dX4_init_42 : decode cX4_init 42 = .ok (.iconst 0, 1) := by decide +kernel
theorem dX4_init_43 : decode cX4_init 43 = .ok (.putfield 37, 3) := by decide +kernel
theorem dX4_init_46 : decode cX4_init 46 = .ok (.aload_n 0, 1) := by decide +kernel
theorem dX4_init_47 : decode cX4_init 47 = .ok (.iconst 0, 1) := by decide +kernel
theorem dX4_init_48 : decode cX4_init 48 = .ok (.putfield 40, 3) := by decide +kernel
theorem dX4_init_51 : decode cX4_init 51 = .ok (.aload_n 0, 1) := by decide +kernel
theorem dX4_init_52 : decode cX4_init 52 = .ok (.iconst 0, 1) := by decide +kernel
theorem dX4_init_53 : decode cX4_init 53 = .ok (.putfield 43, 3) := by decide +kernel
theorem dX4_init_56 : decode cX4_init 56 = .ok (.aload_n 0, 1) := by decide +kernel
theorem dX4_init_57 : decode cX4_init 57 = .ok (.new 46, 3) := by decide +kernel
theorem dX4_init_60 : decode cX4_init 60 = .ok (.dup, 1) := by decide +kernel
theorem dX4_init_61 : decode cX4_init 61 = .ok (.iload_n 1, 1) := by decide +kernel
theorem dX4_init_62 : decode cX4_init 62 = .ok (.invokespecial 48, 3) := by decide +kernel
theorem dX4_init_65 : decode cX4_init 65 = .ok (.putfield 51, 3) := by decide +kernel
theorem dX4_init_68 : decode cX4_init 68 = .ok (.aload_n 0, 1) := by decide +kernel
theorem dX4_init_69 : decode cX4_init 69 = .ok (.iload_n 2, 1) := by decide +kernel
theorem dX4_init_70 : decode cX4_init 70 = .ok (.putfield 55, 3) := by decide +kernel
theorem dX4_init_73 : decode cX4_init 73 = .ok (.aload_n 0, 1) := by decide +kernel
theorem dX4_init_74 : decode cX4_init 74 = .ok (.iload_n 3, 1) := by decide +kernel
theorem dX4_init_75 : decode cX4_init 75 = .ok (.putfield 58, 3) := by decide +kernel
theorem dX4_init_78 : decode cX4_init 78 = .ok (.aload_n 0, 1) := by decide +kernel
theorem dX4_init_79 : decode cX4_init 79 = .ok (.iload 4, 2) := by decide +kernel
theorem dX4_init_81 : decode cX4_init 81 = .ok (.putfield 61, 3) := by decide +kernel
theorem dX4_init_84 : decode cX4_init 84 = .ok (.aload_n 0, 1) := by decide +kernel
theorem dX4_init_85 : decode cX4_init 85 = .ok (.iload 5, 2) := by decide +kernel
theorem dX4_init_87 : decode cX4_init 87 = .ok (.putfield 64, 3) := by decide +kernel
theorem dX4_init_90 : decode cX4_init 90 = .ok (.return_, 1) := by decide +kernel
abbrev rm4_init : Room := { frames := 2, cells := 3, slots := 23, locals := 41 }
theorem hd4_init : yX4_init.cls ≠ "java/lang/invoke/MethodHandle" ∧ yX4_init.cls ≠ "java/lang/invoke/VarHandle" ∧ (parseMethodDescriptor yX4_init.desc).map (fun d => d.parameters.length) = some 5 := by decide +kernel
set_option maxHeartbeats 4000000 in
set_option maxRecDepth 20000 in
theorem m4_init (l : Launch) (hl : l.stackTraces = false) (G : xG) (ρ : Nm → Nat) (this : Nm) (p1 : Int32) (p2 : Int32) (p3 : Int32) (p4 : Int32) (p5 : Int32) (σ : PH) (Q : PH → Prop) (h : w4_init this p1 p2 p3 p4 p5 σ Q) : xMet l yX4_init (.code yX4_init cX4_init 6 none) rm4_init G ρ σ [.ref (ρ this), .int p1, .int p2, .int p3, .int p4, .int p5] (eVA Q) xNo := by
  refine xMet.of hl (by decide +kernel) (Nat.le_of_ble_eq_true rfl) (fun X hC hr hn htab h0 => ?_)
  have hC : xC G X "PlantServer$Subscription" cX4_init 6 rm4_init := hC
  unfold w4_init at h
  refine xJ.loc (L' := [(0, .ref (ρ this)), (1, .int p1), (2, .int p2), (3, .int p3), (4, .int p4), (5, .int p5)]) rfl ?_
  refine x_aload_n hC 0 rfl dX4_init_0 ?_
  refine x_oinit hC q188 q22 q23 (by decide) (by first | exact Nat.le_of_ble_eq_true rfl | (simp [rv_cat]; done) | (simp (decide := true) [rv_cat, cat_ref, cat_int]; done)) dX4_init_1 ?_
  refine x_aload_n hC 0 rfl dX4_init_4 ?_
  refine x_bipush (v := 16) hC dX4_init_5 (by decide) ?_
  obtain ⟨n1, hz1, h⟩ := h
  obtain ⟨z1, h⟩ := h
  refine x_newq (kd := 11) (N := 16) (by decide) hC n1 hz1 (by decide) (by decide) q189 (by decide) (by decide) dX4_init_7 (fun ρ1 hρ1 => ?_)
  rw [← hρ1 this z1]
  refine xJ.nmH (fun σ1 e1 => ?_)
  have h := h σ1 e1
  have k1 : hK σ1 n1 = 11 := by rw [e1]; exact sN_c
  obtain ⟨k2, h⟩ := h
  refine x_putRF (m0 := n1) (n0 := this) hC (ci := 4) (T := TX4) (N := 14) (C := RX4) 5 k2 rfl rfl (by decide) rfl q213 rfl rfl hn (tyX4_ok 5 (by decide)) rfl rfl (by rw [k1]; decide) dX4_init_10 ?_
  refine xJ.nmH (fun σ2 e2 => ?_)
  have h := h σ2 e2
  have r1 : hR σ2 = hR σ2 ∧ hL σ2 = hL σ1 := by rw [e2]; exact ⟨rfl, rfl⟩
  refine x_aload_n hC 0 rfl dX4_init_13 ?_
  refine x_iconst (v := 5) hC dX4_init_14 (by decide) ?_
  obtain ⟨n2, hz2, h⟩ := h
  have k3 : hK σ2 this = 5 := by rw [e2]; exact k2
  refine x_newq (kd := 12) (N := 5) (by decide) hC n2 hz2 (by decide) (by decide) q190 (by decide) (by decide) dX4_init_15 (fun ρ2 hρ2 => ?_)
  rw [← hρ2 this (by rw [k3]; decide)]
  refine xJ.nmH (fun σ3 e3 => ?_)
  have h := h σ3 e3
  have k4 : hK σ3 n2 = 12 := by rw [e3]; exact sN_c
  have k5 : hK σ3 this = 5 := by rw [e3]; exact sN_k hz2 k3 (by decide)
  refine x_putRF (m0 := n2) (n0 := this) hC (ci := 4) (T := TX4) (N := 14) (C := RX4) 6 k5 rfl rfl (by decide) rfl q214 rfl rfl hn (tyX4_ok 6 (by decide)) rfl rfl (by rw [k4]; decide) dX4_init_18 ?_
  refine xJ.nmH (fun σ4 e4 => ?_)
  have h := h σ4 e4
  have r2 : hR σ4 = hR σ4 ∧ hL σ4 = hL σ3 := by rw [e4]; exact ⟨rfl, rfl⟩
  refine x_aload_n hC 0 rfl dX4_init_21 ?_
  refine x_iconst (v := 1) hC dX4_init_22 (by decide) ?_
  have k6 : hK σ4 this = 5 := by rw [e4]; exact k5
  refine x_putZ (n0 := this) hC (ci := 4) (T := TX4) (N := 14) (C := RX4) 7 k6 rfl rfl (by decide) rfl q215 rfl (tyX4_ok 7 (by decide)) zb1 dX4_init_23 ?_
  refine xJ.nmH (fun σ5 e5 => ?_)
  have h := h σ5 e5
  have r3 : hR σ5 = hR σ4 ∧ hL σ5 = hL σ3 := by rw [e5]; exact ⟨r2.1, r2.2⟩
  refine x_aload_n hC 0 rfl dX4_init_26 ?_
  refine x_iconst (v := 0) hC dX4_init_27 (by decide) ?_
  have k7 : hK σ5 this = 5 := by rw [e5]; exact k6
  refine x_putI (n0 := this) hC (ci := 4) (T := TX4) (N := 14) (C := RX4) 8 k7 rfl rfl (by decide) rfl q217 rfl (tyX4_ok 8 (by decide)) dX4_init_28 ?_
  refine xJ.nmH (fun σ6 e6 => ?_)
  have h := h σ6 e6
  have r4 : hR σ6 = hR σ4 ∧ hL σ6 = hL σ3 := by rw [e6]; exact ⟨r3.1, r3.2⟩
  refine x_aload_n hC 0 rfl dX4_init_31 ?_
  refine x_iconst (v := 0) hC dX4_init_32 (by decide) ?_
  have k8 : hK σ6 this = 5 := by rw [e6]; exact k7
  refine x_putI (n0 := this) hC (ci := 4) (T := TX4) (N := 14) (C := RX4) 9 k8 rfl rfl (by decide) rfl q219 rfl (tyX4_ok 9 (by decide)) dX4_init_33 ?_
  refine xJ.nmH (fun σ7 e7 => ?_)
  have h := h σ7 e7
  have r5 : hR σ7 = hR σ4 ∧ hL σ7 = hL σ3 := by rw [e7]; exact ⟨r4.1, r4.2⟩
  refine x_aload_n hC 0 rfl dX4_init_36 ?_
  refine x_iconst (v := 0) hC dX4_init_37 (by decide) ?_
  have k9 : hK σ7 this = 5 := by rw [e7]; exact k8
  refine x_putI (n0 := this) hC (ci := 4) (T := TX4) (N := 14) (C := RX4) 10 k9 rfl rfl (by decide) rfl q220 rfl (tyX4_ok 10 (by decide)) dX4_init_38 ?_
  refine xJ.nmH (fun σ8 e8 => ?_)
  have h := h σ8 e8
  have r6 : hR σ8 = hR σ4 ∧ hL σ8 = hL σ3 := by rw [e8]; exact ⟨r5.1, r5.2⟩
  refine x_aload_n hC 0 rfl dX4_init_41 ?_
  refine x_iconst (v := 0) hC dX4_init_42 (by decide) ?_
  have k10 : hK σ8 this = 5 := by rw [e8]; exact k9
  refine x_putI (n0 := this) hC (ci := 4) (T := TX4) (N := 14) (C := RX4) 11 k10 rfl rfl (by decide) rfl q222 rfl (tyX4_ok 11 (by decide)) dX4_init_43 ?_
  refine xJ.nmH (fun σ9 e9 => ?_)
  have h := h σ9 e9
  have r7 : hR σ9 = hR σ4 ∧ hL σ9 = hL σ3 := by rw [e9]; exact ⟨r6.1, r6.2⟩
  refine x_aload_n hC 0 rfl dX4_init_46 ?_
  refine x_iconst (v := 0) hC dX4_init_47 (by decide) ?_
  have k11 : hK σ9 this = 5 := by rw [e9]; exact k10
  refine x_putI (n0 := this) hC (ci := 4) (T := TX4) (N := 14) (C := RX4) 12 k11 rfl rfl (by decide) rfl q224 rfl (tyX4_ok 12 (by decide)) dX4_init_48 ?_
  refine xJ.nmH (fun σ10 e10 => ?_)
  have h := h σ10 e10
  have r8 : hR σ10 = hR σ4 ∧ hL σ10 = hL σ3 := by rw [e10]; exact ⟨r7.1, r7.2⟩
  refine x_aload_n hC 0 rfl dX4_init_51 ?_
  refine x_iconst (v := 0) hC dX4_init_52 (by decide) ?_
  have k12 : hK σ10 this = 5 := by rw [e10]; exact k11
  refine x_putI (n0 := this) hC (ci := 4) (T := TX4) (N := 14) (C := RX4) 13 k12 rfl rfl (by decide) rfl q225 rfl (tyX4_ok 13 (by decide)) dX4_init_53 ?_
  refine xJ.nmH (fun σ11 e11 => ?_)
  have h := h σ11 e11
  have r9 : hR σ11 = hR σ4 ∧ hL σ11 = hL σ3 := by rw [e11]; exact ⟨r8.1, r8.2⟩
  refine x_aload_n hC 0 rfl dX4_init_56 ?_
  obtain ⟨n3, hz3, h⟩ := h
  have k13 : hK σ11 this = 5 := by rw [e11]; exact k12
  refine x_new (ci := 5) (T := TX5) (N := 2) (C := RX5) hC n3 hz3 rfl xdf5 q192 q193 q12 (by decide) (by decide) dX4_init_57 (fun ρ3 hρ3 => ?_)
  rw [← hρ3 this (by rw [k13]; decide)]
  refine xJ.nmH (fun σ12 e12 => ?_)
  have h := h σ12 e12
  have k14 : hK σ12 n3 = 6 := by rw [e12]; exact sN_c
  refine x_dup hC (by first | rfl | exact rv_cat) dX4_init_60 ?_
  refine x_iload_n hC 1 rfl dX4_init_61 ?_
  refine x_callI (as := [.int p1]) (rest := [.ref (ρ3 n3), .ref (ρ3 this)]) hC (fun l hl => m5_init l hl G ρ3 n3 p1 σ12 _ h) q194 q195 q12 q196 rfl hd5_init (by decide) ⟨(by decide), (by decide)⟩ (by first | exact Nat.le_of_ble_eq_true rfl | (simp [rv_cat]; done) | (simp (decide := true) [rv_cat, cat_ref, cat_int]; done)) rfl dX4_init_62 (fun E σ9 hx => False.elim hx) (fun v1 σ13 ρ4 hp1 hag1 => ?_)
  obtain ⟨e9, e8, h⟩ := hp1
  rw [e8, e9]
  refine xJ.nrm (k' := 3) (n' := 23) (pc' := 65) (st' := [.ref (ρ3 n3), .ref (ρ3 this)]) rfl rfl rfl rfl ?_
  have k15 : hK σ12 this = 5 := by rw [e12]; exact sN_k hz3 k13 (by decide)
  have k16 : hK σ13 this = 5 := (hag1 this (by rw [k15]; decide)).1.trans k15
  have k17 : hK σ13 n3 = 6 := (hag1 n3 (by rw [k14]; decide)).1.trans k14
  refine x_putRF (m0 := n3) (n0 := this) hC (ci := 4) (T := TX4) (N := 14) (C := RX4) 0 k16 rfl rfl (by decide) rfl q206 rfl rfl hn (tyX4_ok 0 (by decide)) rfl rfl (by rw [k17]; decide) dX4_init_65 ?_
  refine xJ.nmH (fun σ14 e13 => ?_)
  have h := h σ14 e13
  have r10 : hR σ14 = hR σ14 ∧ hL σ14 = hL σ13 := by rw [e13]; exact ⟨rfl, rfl⟩
  refine x_aload_n hC 0 rfl dX4_init_68 ?_
  refine x_iload_n hC 2 rfl dX4_init_69 ?_
  have k18 : hK σ14 this = 5 := by rw [e13]; exact k16
  refine x_putIF (n0 := this) hC (ci := 4) (T := TX4) (N := 14) (C := RX4) 1 k18 rfl rfl (by decide) rfl q208 rfl rfl hn (tyX4_ok 1 (by decide)) dX4_init_70 ?_
  refine xJ.nmH (fun σ15 e14 => ?_)
  have h := h σ15 e14
  have r11 : hR σ15 = hR σ14 ∧ hL σ15 = hL σ13 := by rw [e14]; exact ⟨r10.1, r10.2⟩
  refine x_aload_n hC 0 rfl dX4_init_73 ?_
  refine x_iload_n hC 3 rfl dX4_init_74 ?_
  have k19 : hK σ15 this = 5 := by rw [e14]; exact k18
  refine x_putIF (n0 := this) hC (ci := 4) (T := TX4) (N := 14) (C := RX4) 2 k19 rfl rfl (by decide) rfl q209 rfl rfl hn (tyX4_ok 2 (by decide)) dX4_init_75 ?_
  refine xJ.nmH (fun σ16 e15 => ?_)
  have h := h σ16 e15
  have r12 : hR σ16 = hR σ14 ∧ hL σ16 = hL σ13 := by rw [e15]; exact ⟨r11.1, r11.2⟩
  refine x_aload_n hC 0 rfl dX4_init_78 ?_
  refine x_iload hC 4 rfl dX4_init_79 ?_
  have k20 : hK σ16 this = 5 := by rw [e15]; exact k19
  refine x_putIF (n0 := this) hC (ci := 4) (T := TX4) (N := 14) (C := RX4) 3 k20 rfl rfl (by decide) rfl q210 rfl rfl hn (tyX4_ok 3 (by decide)) dX4_init_81 ?_
  refine xJ.nmH (fun σ17 e16 => ?_)
  have h := h σ17 e16
  have r13 : hR σ17 = hR σ14 ∧ hL σ17 = hL σ13 := by rw [e16]; exact ⟨r12.1, r12.2⟩
  refine x_aload_n hC 0 rfl dX4_init_84 ?_
  refine x_iload hC 5 rfl dX4_init_85 ?_
  have k21 : hK σ17 this = 5 := by rw [e16]; exact k20
  refine x_putIF (n0 := this) hC (ci := 4) (T := TX4) (N := 14) (C := RX4) 4 k21 rfl rfl (by decide) rfl q212 rfl rfl hn (tyX4_ok 4 (by decide)) dX4_init_87 ?_
  refine xJ.nmH (fun σ18 e17 => ?_)
  have h := h σ18 e17
  have r14 : hR σ18 = hR σ14 ∧ hL σ18 = hL σ13 := by rw [e17]; exact ⟨r13.1, r13.2⟩
  exact x_vret hC hr dX4_init_90 (by decide) (by decide) ⟨rfl, h⟩
/-! PlantServer.putInTurn -/
theorem dX6_putInTurn_0 : decode cX6_putInTurn 0 = .ok (.iload_n 2, 1) := by decide +kernel
theorem dX6_putInTurn_1 : decode cX6_putInTurn 1 = .ok (.istore_n 3, 1) := by decide +kernel
theorem dX6_putInTurn_2 : decode cX6_putInTurn 2 = .ok (.iload_n 3, 1) := by decide +kernel
theorem dX6_putInTurn_3 : decode cX6_putInTurn 3 = .ok (.ifCond .le 47, 3) := by decide +kernel
theorem dX6_putInTurn_6 : decode cX6_putInTurn 6 = .ok (.aload_n 0, 1) := by decide +kernel
theorem dX6_putInTurn_7 : decode cX6_putInTurn 7 = .ok (.getfield 19, 3) := by decide +kernel
theorem dX6_putInTurn_10 : decode cX6_putInTurn 10 = .ok (.iload_n 3, 1) := by decide +kernel
theorem dX6_putInTurn_11 : decode cX6_putInTurn 11 = .ok (.iconst 1, 1) := by decide +kernel
theorem dX6_putInTurn_12 : decode cX6_putInTurn 12 = .ok (.isub, 1) := by decide +kernel
theorem dX6_putInTurn_13 : decode cX6_putInTurn 13 = .ok (.aaload, 1) := by decide +kernel
theorem dX6_putInTurn_14 : decode cX6_putInTurn 14 = .ok (.astore 4, 2) := by decide +kernel
theorem dX6_putInTurn_16 : decode cX6_putInTurn 16 = .ok (.aload 4, 2) := by decide +kernel
theorem dX6_putInTurn_18 : decode cX6_putInTurn 18 = .ok (.ifnull 32, 3) := by decide +kernel
theorem dX6_putInTurn_21 : decode cX6_putInTurn 21 = .ok (.aload 4, 2) := by decide +kernel
theorem dX6_putInTurn_23 : decode cX6_putInTurn 23 = .ok (.getfield 205, 3) := by decide +kernel
theorem dX6_putInTurn_26 : decode cX6_putInTurn 26 = .ok (.aload_n 1, 1) := by decide +kernel
theorem dX6_putInTurn_27 : decode cX6_putInTurn 27 = .ok (.getfield 205, 3) := by decide +kernel
theorem dX6_putInTurn_30 : decode cX6_putInTurn 30 = .ok (.if_icmp .lt 6, 3) := by decide +kernel
theorem dX6_putInTurn_33 : decode cX6_putInTurn 33 = .ok (.goto 17, 3) := by decide +kernel
theorem dX6_putInTurn_36 : decode cX6_putInTurn 36 = .ok (.aload_n 0, 1) := by decide +kernel
theorem dX6_putInTurn_37 : decode cX6_putInTurn 37 = .ok (.getfield 19, 3) := by decide +kernel
theorem dX6_putInTurn_40 : decode cX6_putInTurn 40 = .ok (.iload_n 3, 1) := by decide +kernel
theorem dX6_putInTurn_41 : decode cX6_putInTurn 41 = .ok (.aload 4, 2) := by decide +kernel
theorem dX6_putInTurn_43 : decode cX6_putInTurn 43 = .ok (.aastore, 1) := by decide +kernel
theorem dX6_putInTurn_44 : decode cX6_putInTurn 44 = .ok (.iinc 3 (-1), 3) := by decide +kernel
theorem dX6_putInTurn_47 : decode cX6_putInTurn 47 = .ok (.goto (-45), 3) := by decide +kernel
theorem dX6_putInTurn_50 : decode cX6_putInTurn 50 = .ok (.aload_n 0, 1) := by decide +kernel
theorem dX6_putInTurn_51 : decode cX6_putInTurn 51 = .ok (.getfield 19, 3) := by decide +kernel
theorem dX6_putInTurn_54 : decode cX6_putInTurn 54 = .ok (.iload_n 3, 1) := by decide +kernel
theorem dX6_putInTurn_55 : decode cX6_putInTurn 55 = .ok (.aload_n 1, 1) := by decide +kernel
theorem dX6_putInTurn_56 : decode cX6_putInTurn 56 = .ok (.aastore, 1) := by decide +kernel
theorem dX6_putInTurn_57 : decode cX6_putInTurn 57 = .ok (.return_, 1) := by decide +kernel
abbrev rm6_putInTurn : Room := { frames := 0, cells := 0, slots := 0, locals := 0 }
theorem hd6_putInTurn : yX6_putInTurn.cls ≠ "java/lang/invoke/MethodHandle" ∧ yX6_putInTurn.cls ≠ "java/lang/invoke/VarHandle" ∧ (parseMethodDescriptor yX6_putInTurn.desc).map (fun d => d.parameters.length) = some 2 := by decide +kernel
set_option maxHeartbeats 4000000 in
set_option maxRecDepth 20000 in
theorem ml6_putInTurn_2 {G : xG} {X : xX} (hC : xC G X "PlantServer" cX6_putInTurn 5 rm6_putInTurn) (hr : xRt X none) (htab : xTab X []) (this : Nm) (a1 : Nm) (p2 : Int32) {ρ : Nm → Nat} (h0 : xR0 X ρ) (k n : Nat) (hk1 : k ≤ 0) (hk2 : n ≤ 0) (K : Int32 → PH → Prop) (Q : PH → Prop) (Xp : String → PH → Prop) : ∀ (f2 : Nat) (x2_3 : Int32) (τ2 : PH), l6_putInTurn_2 this a1 p2 K Q f2 x2_3 τ2 → (∀ (x2_3 : Int32) (τ2 : PH), K x2_3 τ2 → xJ G X (xT X (eV ρ Q) Xp G rm6_putInTurn) 5 ρ τ2 k n 50 [(0, .ref (ρ this)), (1, .ref (ρ a1)), (3, .int x2_3)] []) → xJ G X (xT X (eV ρ Q) Xp G rm6_putInTurn) 5 ρ τ2 k n 2 [(0, .ref (ρ this)), (1, .ref (ρ a1)), (3, .int x2_3)] [] := by
  intro f2
  induction f2 with
  | zero => intro x2_3 τ2 h hKK; unfold l6_putInTurn_2 at h; exact h.elim
  | succ f2 ih =>
    intro x2_3 τ2 h hKK
    unfold l6_putInTurn_2 at h
    refine x_iload_n hC 2 rfl dX6_putInTurn_2 ?_
    refine x_if_le (tgt := 50) hC dX6_putInTurn_3 (by decide) (fun c1 => ?_) (fun c1 => ?_)
    · have h := h.1 c1
      exact hKK _ _ h
    · have h := h.2 c1
      refine x_aload_n hC 0 rfl dX6_putInTurn_6 ?_
      obtain ⟨k1, h⟩ := h
      refine x_getR (n0 := this) hC (ci := 6) (T := TX6) (N := 9) (C := RX6) 2 k1 rfl rfl (by decide) rfl q51 dX6_putInTurn_7 ?_
      refine x_iload_n hC 2 rfl dX6_putInTurn_10 ?_
      refine x_iconst (v := 1) hC dX6_putInTurn_11 (by decide) ?_
      refine x_isub hC dX6_putInTurn_12 ?_
      obtain ⟨m1, hm1, h⟩ := h
      rw [show rv ρ (hR τ2 this 2) = Value.ref (ρ m1) from by rw [hm1]; rfl]
      obtain ⟨k2, h⟩ := h
      obtain ⟨v1, h⟩ := h
      refine x_aald13 (a := m1) hC k2 v1 dX6_putInTurn_13 ?_
      refine x_astoreQ (o := hR τ2 m1 (Int32.toNatClampNeg (x2_3 - 1))) (L' := [(4, rv ρ (hR τ2 m1 (Int32.toNatClampNeg (x2_3 - 1)))), (0, .ref (ρ this)), (1, .ref (ρ a1)), (3, .int x2_3)]) hC dX6_putInTurn_14 (by decide) (by first | rfl | simp (decide := true) [rv_cat, cat_ref, cat_int]) ?_
      refine x_aloadQ (o := hR τ2 m1 (Int32.toNatClampNeg (x2_3 - 1))) hC 0 rfl dX6_putInTurn_16 ?_
      refine x_ifnull (o := hR τ2 m1 (Int32.toNatClampNeg (x2_3 - 1))) (tgt := 50) hC dX6_putInTurn_18 (by decide) (fun c2 => ?_) (fun m2 c2 => ?_)
      · have h := h.1 c2
        rw [show rv ρ (hR τ2 m1 (Int32.toNatClampNeg (x2_3 - 1))) = Value.null from by rw [c2]; rfl]
        refine xJ.sub (L' := [(0, .ref (ρ this)), (1, .ref (ρ a1)), (3, .int x2_3)]) [1, 2, 3] rfl ?_
        exact hKK _ _ h
      · have h := h.2 m2 c2
        rw [show rv ρ (hR τ2 m1 (Int32.toNatClampNeg (x2_3 - 1))) = Value.ref (ρ m2) from by rw [c2]; rfl]
        refine x_aload hC 0 rfl dX6_putInTurn_21 ?_
        obtain ⟨k3, h⟩ := h
        refine x_getI (n0 := m2) hC (ci := 4) (T := TX4) (N := 14) (C := RX4) 3 k3 rfl rfl (by decide) rfl q211 dX6_putInTurn_23 ?_
        refine x_aload_n hC 2 rfl dX6_putInTurn_26 ?_
        obtain ⟨k4, h⟩ := h
        refine x_getI (n0 := a1) hC (ci := 4) (T := TX4) (N := 14) (C := RX4) 3 k4 rfl rfl (by decide) rfl q211 dX6_putInTurn_27 ?_
        refine x_icmp_lt (tgt := 36) hC dX6_putInTurn_30 (by decide) (fun c3 => ?_) (fun c3 => ?_)
        · have h := h.1 c3
          refine x_aload_n hC 1 rfl dX6_putInTurn_36 ?_
          refine x_getR (n0 := this) hC (ci := 6) (T := TX6) (N := 9) (C := RX6) 2 k1 rfl rfl (by decide) rfl q51 dX6_putInTurn_37 ?_
          rw [show rv ρ (hR τ2 this 2) = Value.ref (ρ m1) from by rw [hm1]; rfl]
          refine x_iload_n hC 3 rfl dX6_putInTurn_40 ?_
          refine x_aload hC 0 rfl dX6_putInTurn_41 ?_
          obtain ⟨v2, h⟩ := h
          refine x_aast13 (a := m1) (o := some m2) hC (fun m hm => by cases hm; exact k3) k2 v2 dX6_putInTurn_43 ?_
          refine xJ.nmH (fun σ1 e1 => ?_)
          have h := h σ1 e1
          have r1 : hR σ1 = hR σ1 ∧ hL σ1 = hL τ2 := by rw [e1]; exact ⟨rfl, rfl⟩
          refine x_iinc (v' := x2_3 + (-1)) (L' := [(3, .int (x2_3 + (-1))), (4, .ref (ρ m2)), (0, .ref (ρ this)), (1, .ref (ρ a1))]) hC 3 rfl dX6_putInTurn_44 rfl (by decide) (by first | rfl | simp (decide := true) [rv_cat, cat_ref, cat_int]) ?_
          refine x_goto (tgt := 2) hC dX6_putInTurn_47 (by decide) ?_
          refine xJ.sub (L' := [(0, .ref (ρ this)), (1, .ref (ρ a1)), (3, .int (x2_3 + (-1)))]) [2, 3, 0] rfl ?_
          exact ih _ _ h hKK
        · have h := h.2 c3
          refine x_goto (tgt := 50) hC dX6_putInTurn_33 (by decide) ?_
          refine xJ.sub (L' := [(0, .ref (ρ this)), (1, .ref (ρ a1)), (3, .int x2_3)]) [1, 2, 3] rfl ?_
          exact hKK _ _ h
set_option maxHeartbeats 4000000 in
set_option maxRecDepth 20000 in
theorem m6_putInTurn (l : Launch) (hl : l.stackTraces = false) (G : xG) (ρ : Nm → Nat) (this : Nm) (a1 : Nm) (p2 : Int32) (σ : PH) (Q : PH → Prop) (h : w6_putInTurn this a1 p2 σ Q) : xMet l yX6_putInTurn (.code yX6_putInTurn cX6_putInTurn 5 none) rm6_putInTurn G ρ σ [.ref (ρ this), .ref (ρ a1), .int p2] (eV ρ Q) xNo := by
  refine xMet.of hl (by decide +kernel) (Nat.le_of_ble_eq_true rfl) (fun X hC hr hn htab h0 => ?_)
  have hC : xC G X "PlantServer" cX6_putInTurn 5 rm6_putInTurn := hC
  unfold w6_putInTurn at h
  refine xJ.loc (L' := [(0, .ref (ρ this)), (1, .ref (ρ a1)), (2, .int p2)]) rfl ?_
  refine x_iload_n hC 2 rfl dX6_putInTurn_0 ?_
  refine x_istore_n (L' := [(3, .int p2), (0, .ref (ρ this)), (1, .ref (ρ a1)), (2, .int p2)]) hC dX6_putInTurn_1 (by decide) (by first | rfl | simp (decide := true) [rv_cat, cat_ref, cat_int]) ?_
  refine xJ.sub (L' := [(0, .ref (ρ this)), (1, .ref (ρ a1)), (3, .int p2)]) [1, 2, 0] rfl ?_
  obtain ⟨f2, h⟩ := h
  refine ml6_putInTurn_2 hC hr htab this a1 p2 h0 (0) (0) (by decide) (by decide) _ Q _ f2 _ _ h (fun y1 τ1 h => ?_)
  refine x_aload_n hC 0 rfl dX6_putInTurn_50 ?_
  obtain ⟨k5, h⟩ := h
  refine x_getR (n0 := this) hC (ci := 6) (T := TX6) (N := 9) (C := RX6) 2 k5 rfl rfl (by decide) rfl q51 dX6_putInTurn_51 ?_
  refine x_iload_n hC 2 rfl dX6_putInTurn_54 ?_
  refine x_aload_n hC 1 rfl dX6_putInTurn_55 ?_
  obtain ⟨m3, hm2, h⟩ := h
  rw [show rv ρ (hR τ1 this 2) = Value.ref (ρ m3) from by rw [hm2]; rfl]
  obtain ⟨k6, h⟩ := h
  obtain ⟨v3, h⟩ := h
  obtain ⟨k7, h⟩ := h
  refine x_aast13 (a := m3) (o := some a1) hC (fun m hm => by cases hm; exact k7) k6 v3 dX6_putInTurn_56 ?_
  refine xJ.nmH (fun σ2 e2 => ?_)
  have h := h σ2 e2
  have r2 : hR σ2 = hR σ2 ∧ hL σ2 = hL τ1 := by rw [e2]; exact ⟨rfl, rfl⟩
  exact x_vret hC hr dX6_putInTurn_57 (by decide) (by decide) ⟨rfl, rfl, h⟩
/-! PlantServer.open -/
theorem dX6_open_0 : decode cX6_open 0 = .ok (.iload_n 1, 1) := by decide +kernel
theorem dX6_open_1 : decode cX6_open 1 = .ok (.iconst 1, 1) := by decide +kernel
theorem dX6_open_2 : decode cX6_open 2 = .ok (.bipush 20, 2) := by decide +kernel
theorem dX6_open_4 : decode cX6_open 4 = .ok (.invokestatic 52, 3) := by decide +kernel
theorem dX6_open_7 : decode cX6_open 7 = .ok (.iload_n 2, 1) := by decide +kernel
theorem dX6_open_8 : decode cX6_open 8 = .ok (.iconst 1, 1) := by decide +kernel
theorem dX6_open_9 : decode cX6_open 9 = .ok (.bipush 10, 2) := by decide +kernel
theorem dX6_open_11 : decode cX6_open 11 = .ok (.invokestatic 52, 3) := by decide +kernel
theorem dX6_open_14 : decode cX6_open 14 = .ok (.iload_n 3, 1) := by decide +kernel
theorem dX6_open_15 : decode cX6_open 15 = .ok (.iconst 1, 1) := by decide +kernel
theorem dX6_open_16 : decode cX6_open 16 = .ok (.bipush 30, 2) := by decide +kernel
theorem dX6_open_18 : decode cX6_open 18 = .ok (.invokestatic 52, 3) := by decide +kernel
theorem dX6_open_21 : decode cX6_open 21 = .ok (.iload 4, 2) := by decide +kernel
theorem dX6_open_23 : decode cX6_open 23 = .ok (.iconst 0, 1) := by decide +kernel
theorem dX6_open_24 : decode cX6_open 24 = .ok (.bipush 9, 2) := by decide +kernel
theorem dX6_open_26 : decode cX6_open 26 = .ok (.invokestatic 52, 3) := by decide +kernel
theorem dX6_open_29 : decode cX6_open 29 = .ok (.iload 5, 2) := by decide +kernel
theorem dX6_open_31 : decode cX6_open 31 = .ok (.iconst 1, 1) := by decide +kernel
theorem dX6_open_32 : decode cX6_open 32 = .ok (.bipush 10, 2) := by decide +kernel
theorem dX6_open_34 : decode cX6_open 34 = .ok (.invokestatic 52, 3) := by decide +kernel
theorem dX6_open_37 : decode cX6_open 37 = .ok (.aload_n 0, 1) := by decide +kernel
theorem dX6_open_38 : decode cX6_open 38 = .ok (.getfield 35, 3) := by decide +kernel
theorem dX6_open_41 : decode cX6_open 41 = .ok (.iconst 4, 1) := by decide +kernel
theorem dX6_open_42 : decode cX6_open 42 = .ok (.if_icmp .lt 13, 3) := by decide +kernel
theorem dX6_open_45 : decode cX6_open 45 = .ok (.new 59, 3) := by decide +kernel
theorem dX6_open_48 : decode cX6_open 48 = .ok (.dup, 1) := by decide +kernel
theorem dX6_open_49 : decode cX6_open 49 = .ok (.ldc 61, 2) := by decide +kernel
theorem dX6_open_51 : decode cX6_open 51 = .ok (.invokespecial 63, 3) := by decide +kernel
theorem dX6_open_54 : decode cX6_open 54 = .ok (.athrow, 1) := by decide +kernel
theorem dX6_open_55 : decode cX6_open 55 = .ok (.aload_n 0, 1) := by decide +kernel
theorem dX6_open_56 : decode cX6_open 56 = .ok (.getfield 35, 3) := by decide +kernel
theorem dX6_open_59 : decode cX6_open 59 = .ok (.istore 6, 2) := by decide +kernel
theorem dX6_open_61 : decode cX6_open 61 = .ok (.new 13, 3) := by decide +kernel
theorem dX6_open_64 : decode cX6_open 64 = .ok (.dup, 1) := by decide +kernel
theorem dX6_open_65 : decode cX6_open 65 = .ok (.iload_n 1, 1) := by decide +kernel
theorem dX6_open_66 : decode cX6_open 66 = .ok (.iload_n 2, 1) := by decide +kernel
theorem dX6_open_67 : decode cX6_open 67 = .ok (.iload_n 3, 1) := by decide +kernel
theorem dX6_open_68 : decode cX6_open 68 = .ok (.iload 4, 2) := by decide +kernel
theorem dX6_open_70 : decode cX6_open 70 = .ok (.iload 5, 2) := by decide +kernel
theorem dX6_open_72 : decode cX6_open 72 = .ok (.invokespecial 66, 3) := by decide +kernel
theorem dX6_open_75 : decode cX6_open 75 = .ok (.astore 7, 2) := by decide +kernel
theorem dX6_open_77 : decode cX6_open 77 = .ok (.aload_n 0, 1) := by decide +kernel
theorem dX6_open_78 : decode cX6_open 78 = .ok (.getfield 15, 3) := by decide +kernel
theorem dX6_open_81 : decode cX6_open 81 = .ok (.iload 6, 2) := by decide +kernel
theorem dX6_open_83 : decode cX6_open 83 = .ok (.aload 7, 2) := by decide +kernel
theorem dX6_open_85 : decode cX6_open 85 = .ok (.aastore, 1) := by decide +kernel
theorem dX6_open_86 : decode cX6_open 86 = .ok (.aload_n 0, 1) := by decide +kernel
theorem dX6_open_87 : decode cX6_open 87 = .ok (.aload 7, 2) := by decide +kernel
theorem dX6_open_89 : decode cX6_open 89 = .ok (.iload 6, 2) := by decide +kernel
theorem dX6_open_91 : decode cX6_open 91 = .ok (.invokevirtual 69, 3) := by decide +kernel
theorem dX6_open_94 : decode cX6_open 94 = .ok (.aload_n 0, 1) := by decide +kernel
theorem dX6_open_95 : decode cX6_open 95 = .ok (.dup, 1) := by decide +kernel
theorem dX6_open_96 : decode cX6_open 96 = .ok (.getfield 35, 3) := by decide +kernel
theorem dX6_open_99 : decode cX6_open 99 = .ok (.iconst 1, 1) := by decide +kernel
theorem dX6_open_100 : decode cX6_open 100 = .ok (.iadd, 1) := by decide +kernel
theorem dX6_open_101 : decode cX6_open 101 = .ok (.putfield 35, 3) := by decide +kernel
theorem dX6_open_104 : decode cX6_open 104 = .ok (.iload 6, 2) := by decide +kernel
theorem dX6_open_106 : decode cX6_open 106 = .ok (.ireturn, 1) := by decide +kernel
abbrev rm6_open : Room := { frames := 7, cells := 9, slots := 67, locals := 112 }
theorem hd6_open : yX6_open.cls ≠ "java/lang/invoke/MethodHandle" ∧ yX6_open.cls ≠ "java/lang/invoke/VarHandle" ∧ (parseMethodDescriptor yX6_open.desc).map (fun d => d.parameters.length) = some 5 := by decide +kernel
set_option maxHeartbeats 4000000 in
set_option maxRecDepth 20000 in
theorem m6_open (l : Launch) (hl : l.stackTraces = false) (G : xG) (ρ : Nm → Nat) (this : Nm) (p1 : Int32) (p2 : Int32) (p3 : Int32) (p4 : Int32) (p5 : Int32) (σ : PH) (Q : Int32 → PH → Prop) (Xp : String → PH → Prop) (h : w6_open this p1 p2 p3 p4 p5 σ Q Xp) : xMet l yX6_open (.code yX6_open cX6_open 8 (some .int)) rm6_open G ρ σ [.ref (ρ this), .int p1, .int p2, .int p3, .int p4, .int p5] (eIA Q) Xp := by
  refine xMet.of hl (by decide +kernel) (Nat.le_of_ble_eq_true rfl) (fun X hC hr hn htab h0 => ?_)
  have hC : xC G X "PlantServer" cX6_open 8 rm6_open := hC
  unfold w6_open at h
  refine xJ.loc (L' := [(0, .ref (ρ this)), (1, .int p1), (2, .int p2), (3, .int p3), (4, .int p4), (5, .int p5)]) rfl ?_
  refine x_iload_n hC 1 rfl dX6_open_0 ?_
  refine x_iconst (v := 1) hC dX6_open_1 (by decide) ?_
  refine x_bipush (v := 20) hC dX6_open_2 (by decide) ?_
  refine x_callS (as := [.int p1, .int 1, .int 20]) (rest := []) hC (fun l hl => m6_checkRange l hl G ρ p1 1 20 σ _ Xp h) q96 q97 q1 q98 hd6_checkRange (by decide) ⟨(by decide), (by decide)⟩ (by first | exact Nat.le_of_ble_eq_true rfl | (simp [rv_cat]; done) | (simp (decide := true) [rv_cat, cat_ref, cat_int]; done)) rfl dX6_open_4 (fun E σ9 hx => x_out hC h0 htab (by decide) (by decide) hx) (fun v1 σ1 ρ1 hp1 hag1 => ?_)
  obtain ⟨e9, e8, h⟩ := hp1
  rw [e8, e9]
  refine xJ.nrm (k' := 1) (n' := 6) (pc' := 7) (st' := []) rfl rfl rfl rfl ?_
  refine x_iload_n hC 2 rfl dX6_open_7 ?_
  refine x_iconst (v := 1) hC dX6_open_8 (by decide) ?_
  refine x_bipush (v := 10) hC dX6_open_9 (by decide) ?_
  refine x_callS (as := [.int p2, .int 1, .int 10]) (rest := []) hC (fun l hl => m6_checkRange l hl G ρ p2 1 10 σ1 _ Xp h) q96 q97 q1 q98 hd6_checkRange (by decide) ⟨(by decide), (by decide)⟩ (by first | exact Nat.le_of_ble_eq_true rfl | (simp [rv_cat]; done) | (simp (decide := true) [rv_cat, cat_ref, cat_int]; done)) rfl dX6_open_11 (fun E σ9 hx => x_out hC h0 htab (by decide) (by decide) hx) (fun v2 σ2 ρ2 hp2 hag2 => ?_)
  obtain ⟨e9, e8, h⟩ := hp2
  rw [e8, e9]
  refine xJ.nrm (k' := 2) (n' := 12) (pc' := 14) (st' := []) rfl rfl rfl rfl ?_
  refine x_iload_n hC 3 rfl dX6_open_14 ?_
  refine x_iconst (v := 1) hC dX6_open_15 (by decide) ?_
  refine x_bipush (v := 30) hC dX6_open_16 (by decide) ?_
  refine x_callS (as := [.int p3, .int 1, .int 30]) (rest := []) hC (fun l hl => m6_checkRange l hl G ρ p3 1 30 σ2 _ Xp h) q96 q97 q1 q98 hd6_checkRange (by decide) ⟨(by decide), (by decide)⟩ (by first | exact Nat.le_of_ble_eq_true rfl | (simp [rv_cat]; done) | (simp (decide := true) [rv_cat, cat_ref, cat_int]; done)) rfl dX6_open_18 (fun E σ9 hx => x_out hC h0 htab (by decide) (by decide) hx) (fun v3 σ3 ρ3 hp3 hag3 => ?_)
  obtain ⟨e9, e8, h⟩ := hp3
  rw [e8, e9]
  refine xJ.nrm (k' := 3) (n' := 18) (pc' := 21) (st' := []) rfl rfl rfl rfl ?_
  refine x_iload hC 4 rfl dX6_open_21 ?_
  refine x_iconst (v := 0) hC dX6_open_23 (by decide) ?_
  refine x_bipush (v := 9) hC dX6_open_24 (by decide) ?_
  refine x_callS (as := [.int p4, .int 0, .int 9]) (rest := []) hC (fun l hl => m6_checkRange l hl G ρ p4 0 9 σ3 _ Xp h) q96 q97 q1 q98 hd6_checkRange (by decide) ⟨(by decide), (by decide)⟩ (by first | exact Nat.le_of_ble_eq_true rfl | (simp [rv_cat]; done) | (simp (decide := true) [rv_cat, cat_ref, cat_int]; done)) rfl dX6_open_26 (fun E σ9 hx => x_out hC h0 htab (by decide) (by decide) hx) (fun v4 σ4 ρ4 hp4 hag4 => ?_)
  obtain ⟨e9, e8, h⟩ := hp4
  rw [e8, e9]
  refine xJ.nrm (k' := 4) (n' := 24) (pc' := 29) (st' := []) rfl rfl rfl rfl ?_
  refine x_iload hC 5 rfl dX6_open_29 ?_
  refine x_iconst (v := 1) hC dX6_open_31 (by decide) ?_
  refine x_bipush (v := 10) hC dX6_open_32 (by decide) ?_
  refine x_callS (as := [.int p5, .int 1, .int 10]) (rest := []) hC (fun l hl => m6_checkRange l hl G ρ p5 1 10 σ4 _ Xp h) q96 q97 q1 q98 hd6_checkRange (by decide) ⟨(by decide), (by decide)⟩ (by first | exact Nat.le_of_ble_eq_true rfl | (simp [rv_cat]; done) | (simp (decide := true) [rv_cat, cat_ref, cat_int]; done)) rfl dX6_open_34 (fun E σ9 hx => x_out hC h0 htab (by decide) (by decide) hx) (fun v5 σ5 ρ5 hp5 hag5 => ?_)
  obtain ⟨e9, e8, h⟩ := hp5
  rw [e8, e9]
  refine xJ.nrm (k' := 5) (n' := 30) (pc' := 37) (st' := []) rfl rfl rfl rfl ?_
  refine x_aload_n hC 0 rfl dX6_open_37 ?_
  obtain ⟨k1, h⟩ := h
  refine x_getI (n0 := this) hC (ci := 6) (T := TX6) (N := 9) (C := RX6) 5 k1 rfl rfl (by decide) rfl q54 dX6_open_38 ?_
  refine x_iconst (v := 4) hC dX6_open_41 (by decide) ?_
  refine x_icmp_lt (tgt := 55) hC dX6_open_42 (by decide) (fun c1 => ?_) (fun c1 => ?_)
  · have h := h.1 c1
    refine x_aload_n hC 0 rfl dX6_open_55 ?_
    refine x_getI (n0 := this) hC (ci := 6) (T := TX6) (N := 9) (C := RX6) 5 k1 rfl rfl (by decide) rfl q54 dX6_open_56 ?_
    refine x_istore (L' := [(6, .int (hI σ5 this 5)), (0, .ref (ρ this)), (1, .int p1), (2, .int p2), (3, .int p3), (4, .int p4), (5, .int p5)]) hC dX6_open_59 (by decide) (by first | rfl | simp (decide := true) [rv_cat, cat_ref, cat_int]) ?_
    obtain ⟨n1, hz1, h⟩ := h
    refine x_new (ci := 4) (T := TX4) (N := 14) (C := RX4) hC n1 hz1 rfl xdf4 q24 q184 q11 (by decide) (by decide) dX6_open_61 (fun ρ6 hρ1 => ?_)
    rw [← hρ1 this (by rw [k1]; decide)]
    refine xJ.nmH (fun σ6 e1 => ?_)
    have h := h σ6 e1
    have k2 : hK σ6 n1 = 5 := by rw [e1]; exact sN_c
    refine x_dup hC (by first | rfl | exact rv_cat) dX6_open_64 ?_
    refine x_iload_n hC 2 rfl dX6_open_65 ?_
    refine x_iload_n hC 3 rfl dX6_open_66 ?_
    refine x_iload_n hC 4 rfl dX6_open_67 ?_
    refine x_iload hC 5 rfl dX6_open_68 ?_
    refine x_iload hC 6 rfl dX6_open_70 ?_
    have k3 : hK σ6 this = 7 := by rw [e1]; exact sN_k hz1 k1 (by decide)
    refine xJ.sub (L' := [(6, .int (hI σ5 this 5)), (0, .ref (ρ6 this))]) [0, 1] rfl ?_
    refine x_callI (as := [.int p1, .int p2, .int p3, .int p4, .int p5]) (rest := [.ref (ρ6 n1)]) hC (fun l hl => m4_init l hl G ρ6 n1 p1 p2 p3 p4 p5 σ6 _ h) q185 q186 q11 q187 rfl hd4_init (by decide) ⟨(by decide), (by decide)⟩ (by first | exact Nat.le_of_ble_eq_true rfl | (simp [rv_cat]; done) | (simp (decide := true) [rv_cat, cat_ref, cat_int]; done)) rfl dX6_open_72 (fun E σ9 hx => False.elim hx) (fun v6 σ7 ρ7 hp6 hag6 => ?_)
    obtain ⟨e8, h⟩ := hp6
    rw [e8]
    rw [← (hag6 this (by rw [k3]; decide)).2, ← (hag6 n1 (by rw [k2]; decide)).2]
    refine xJ.nrm (k' := 9) (n' := 67) (pc' := 75) (st' := [.ref (ρ7 n1)]) rfl rfl rfl rfl ?_
    refine x_astore (L' := [(7, .ref (ρ7 n1)), (6, .int (hI σ5 this 5)), (0, .ref (ρ7 this))]) hC dX6_open_75 (by decide) (by first | rfl | simp (decide := true) [rv_cat, cat_ref, cat_int]) ?_
    refine x_aload_n hC 2 rfl dX6_open_77 ?_
    have k4 : hK σ7 this = 7 := (hag6 this (by rw [k3]; decide)).1.trans k3
    refine x_getR (n0 := this) hC (ci := 6) (T := TX6) (N := 9) (C := RX6) 1 k4 rfl rfl (by decide) rfl q50 dX6_open_78 ?_
    refine x_iload hC 1 rfl dX6_open_81 ?_
    refine x_aload hC 0 rfl dX6_open_83 ?_
    obtain ⟨m1, hm1, h⟩ := h
    rw [show rv ρ7 (hR σ7 this 1) = Value.ref (ρ7 m1) from by rw [hm1]; rfl]
    obtain ⟨k5, h⟩ := h
    obtain ⟨v7, h⟩ := h
    have k6 : hK σ7 n1 = 5 := (hag6 n1 (by rw [k2]; decide)).1.trans k2
    refine x_aast13 (a := m1) (o := some n1) hC (fun m hm => by cases hm; exact k6) k5 v7 dX6_open_85 ?_
    refine xJ.nmH (fun σ8 e2 => ?_)
    have h := h σ8 e2
    have r1 : hR σ8 = hR σ8 ∧ hL σ8 = hL σ7 := by rw [e2]; exact ⟨rfl, rfl⟩
    refine x_aload_n hC 2 rfl dX6_open_86 ?_
    refine x_aload hC 0 rfl dX6_open_87 ?_
    refine x_iload hC 1 rfl dX6_open_89 ?_
    have k7 : hK σ8 this = 7 := by rw [e2]; exact k4
    refine x_callV (n0 := this) (as := [.ref (ρ7 n1), .int (hI σ5 this 5)]) (rest := []) hC (ci := 6) (r := (RX6, TX6, 9)) k7 rfl (fun l hl => m6_putInTurn l hl G ρ7 this n1 (hI σ5 this 5) σ8 _ h) q255 q257 s1 q1 q258 ⟨rfl, hd6_putInTurn⟩ (by decide) ⟨(by decide), (by decide)⟩ (by first | exact Nat.le_of_ble_eq_true rfl | (simp [rv_cat]; done) | (simp (decide := true) [rv_cat, cat_ref, cat_int]; done)) rfl dX6_open_91 (fun E σ9 hx => False.elim hx) (fun v8 σ9 ρ8 hp7 hag7 => ?_)
    obtain ⟨e9, e8, h⟩ := hp7
    rw [e8, e9]
    refine xJ.nrm (k' := 9) (n' := 67) (pc' := 94) (st' := []) rfl rfl rfl rfl ?_
    refine x_aload_n hC 2 rfl dX6_open_94 ?_
    refine x_dup hC (by first | rfl | exact rv_cat) dX6_open_95 ?_
    have k8 : hK σ9 this = 7 := (hag7 this (by rw [k7]; decide)).1.trans k7
    refine x_getI (n0 := this) hC (ci := 6) (T := TX6) (N := 9) (C := RX6) 5 k8 rfl rfl (by decide) rfl q54 dX6_open_96 ?_
    refine x_iconst (v := 1) hC dX6_open_99 (by decide) ?_
    refine x_iadd hC dX6_open_100 ?_
    refine x_putI (n0 := this) hC (ci := 6) (T := TX6) (N := 9) (C := RX6) 5 k8 rfl rfl (by decide) rfl q54 rfl (tyX6_ok 5 (by decide)) dX6_open_101 ?_
    refine xJ.nmH (fun σ10 e3 => ?_)
    have h := h σ10 e3
    have r2 : hR σ10 = hR σ9 ∧ hL σ10 = hL σ9 := by rw [e3]; exact ⟨rfl, rfl⟩
    refine x_iload hC 1 rfl dX6_open_104 ?_
    exact x_iret hC hr dX6_open_106 (by decide) (by decide) ⟨_, rfl, h⟩
  · have h := h.2 c1
    exact x_throw (E := xIS) (text := "there were 4 subscriptions") (is := 61) hC h0 htab (by decide +kernel) (by decide +kernel) q168 q10 xhat_xIS xgood_xIS dX6_open_45 dX6_open_48 dX6_open_49 dX6_open_51 dX6_open_54 (by decide) (by first | exact Nat.le_of_ble_eq_true rfl | (simp [rv_cat]; done) | (simp (decide := true) [rv_cat, cat_ref, cat_int]; done)) (by decide) (by decide) h
/-! PlantServerLaw.open -/
theorem dL_open_0 : decode cL_open 0 = .ok (.aload_n 0, 1) := by decide +kernel
theorem dL_open_1 : decode cL_open 1 = .ok (.iload_n 1, 1) := by decide +kernel
theorem dL_open_2 : decode cL_open 2 = .ok (.iload_n 2, 1) := by decide +kernel
theorem dL_open_3 : decode cL_open 3 = .ok (.iload_n 3, 1) := by decide +kernel
theorem dL_open_4 : decode cL_open 4 = .ok (.iload 4, 2) := by decide +kernel
theorem dL_open_6 : decode cL_open 6 = .ok (.iload 5, 2) := by decide +kernel
theorem dL_open_8 : decode cL_open 8 = .ok (.invokevirtual 18, 3) := by decide +kernel
theorem dL_open_11 : decode cL_open 11 = .ok (.istore 6, 2) := by decide +kernel
theorem dL_open_13 : decode cL_open 13 = .ok (.goto 15, 3) := by decide +kernel
theorem dL_open_16 : decode cL_open 16 = .ok (.astore 7, 2) := by decide +kernel
theorem dL_open_18 : decode cL_open 18 = .ok (.sipush (-7200), 3) := by decide +kernel
theorem dL_open_21 : decode cL_open 21 = .ok (.ireturn, 1) := by decide +kernel
theorem dL_open_22 : decode cL_open 22 = .ok (.astore 7, 2) := by decide +kernel
theorem dL_open_24 : decode cL_open 24 = .ok (.sipush (-7300), 3) := by decide +kernel
theorem dL_open_27 : decode cL_open 27 = .ok (.ireturn, 1) := by decide +kernel
theorem dL_open_28 : decode cL_open 28 = .ok (.iload 6, 2) := by decide +kernel
theorem dL_open_30 : decode cL_open 30 = .ok (.ireturn, 1) := by decide +kernel
abbrev rmL_open : Room := { frames := 8, cells := 9, slots := 67, locals := 139 }
theorem hdL_open : yL_open.cls ≠ "java/lang/invoke/MethodHandle" ∧ yL_open.cls ≠ "java/lang/invoke/VarHandle" ∧ (parseMethodDescriptor yL_open.desc).map (fun d => d.parameters.length) = some 6 := by decide +kernel
set_option maxHeartbeats 4000000 in
set_option maxRecDepth 20000 in
theorem mL_open (l : Launch) (hl : l.stackTraces = false) (G : xG) (ρ : Nm → Nat) (a1 : Nm) (p2 : Int32) (p3 : Int32) (p4 : Int32) (p5 : Int32) (p6 : Int32) (σ : PH) (Q : Int32 → PH → Prop) (h : wL_open a1 p2 p3 p4 p5 p6 σ Q) : xMet l yL_open (.codeWith yL_open cL_open 8 (some .int) [(0, 13, 16, 16), (0, 13, 22, 22)]) rmL_open G ρ σ [.ref (ρ a1), .int p2, .int p3, .int p4, .int p5, .int p6] (eIA Q) xNo := by
  refine xMet.ofW hl (by decide +kernel) (Nat.le_of_ble_eq_true rfl) (fun X hC hr hn htab h0 => ?_)
  have hC : xC G X "PlantServerLaw" cL_open 8 rmL_open := hC
  unfold wL_open at h
  refine xJ.loc (L' := [(0, .ref (ρ a1)), (1, .int p2), (2, .int p3), (3, .int p4), (4, .int p5), (5, .int p6)]) rfl ?_
  refine x_aload_n hC 0 rfl dL_open_0 ?_
  refine x_iload_n hC 1 rfl dL_open_1 ?_
  refine x_iload_n hC 2 rfl dL_open_2 ?_
  refine x_iload_n hC 3 rfl dL_open_3 ?_
  refine x_iload hC 4 rfl dL_open_4 ?_
  refine x_iload hC 5 rfl dL_open_6 ?_
  obtain ⟨k1, h⟩ := h
  refine xJ.sub (L' := []) [] rfl ?_
  refine x_callV (n0 := a1) (as := [.int p2, .int p3, .int p4, .int p5, .int p6]) (rest := []) hC (ci := 6) (r := (RX6, TX6, 9)) k1 rfl (fun l hl => m6_open l hl G ρ a1 p2 p3 p4 p5 p6 σ _ _ h) q92 q93 q94 q1 q95 ⟨rfl, hd6_open⟩ (by decide) ⟨(by decide), (by decide)⟩ (by first | exact Nat.le_of_ble_eq_true rfl | (simp [rv_cat]; done) | (simp (decide := true) [rv_cat, cat_ref, cat_int]; done)) rfl dL_open_8 (fun E σ2 hx => ?_) (fun v1 σ1 ρ1 hp1 hag1 => ?_)
  · have hE9 := hx.2.2
    rcases hE9 with he | he
    · have h := hx.1 he
      subst he
      refine x_catch hC [] [(0, 13, 22, 22)] (0, 13, 16, 16) htab (by intro z hz; simp at hz) (by decide) (by decide) q90 xcast_xIA (fun qx1 => ?_)
      refine xJ.nrm (k' := 9) (n' := 67) (pc' := 16) (st' := [.ref qx1]) rfl rfl rfl rfl ?_
      refine x_astore (L' := [(7, .ref qx1)]) hC dL_open_16 (by decide) (by first | rfl | simp (decide := true) [rv_cat, cat_ref, cat_int]) ?_
      refine x_sipush (v := (-7200)) hC dL_open_18 (by decide) ?_
      exact x_iret hC hr dL_open_21 (by decide) (by decide) ⟨_, rfl, h⟩
    · have h := hx.2.1 he
      subst he
      refine x_catch hC [(0, 13, 16, 16)] [] (0, 13, 22, 22) htab (xpass1 (E := xIS) q90 (by decide) (by decide +kernel)) (by decide) (by decide) q91 xcast_xIS (fun qx2 => ?_)
      refine xJ.nrm (k' := 9) (n' := 67) (pc' := 22) (st' := [.ref qx2]) rfl rfl rfl rfl ?_
      refine x_astore (L' := [(7, .ref qx2)]) hC dL_open_22 (by decide) (by first | rfl | simp (decide := true) [rv_cat, cat_ref, cat_int]) ?_
      refine x_sipush (v := (-7300)) hC dL_open_24 (by decide) ?_
      exact x_iret hC hr dL_open_27 (by decide) (by decide) ⟨_, rfl, h⟩
  · obtain ⟨r1, e8, h⟩ := hp1
    rw [e8]
    refine xJ.nrm (k' := 9) (n' := 67) (pc' := 11) (st' := [.int r1]) rfl rfl rfl rfl ?_
    refine x_istore (L' := [(6, .int r1)]) hC dL_open_11 (by decide) (by first | rfl | simp (decide := true) [rv_cat, cat_ref, cat_int]) ?_
    refine x_goto (tgt := 28) hC dL_open_13 (by decide) ?_
    refine x_iload hC 0 rfl dL_open_28 ?_
    exact x_iret hC hr dL_open_30 (by decide) (by decide) ⟨_, rfl, h⟩
/-! PlantServer.close -/
theorem dX6_close_0 : decode cX6_close 0 = .ok (.aload_n 0, 1) := by decide +kernel
theorem dX6_close_1 : decode cX6_close 1 = .ok (.iload_n 1, 1) := by decide +kernel
theorem dX6_close_2 : decode cX6_close 2 = .ok (.invokevirtual 73, 3) := by decide +kernel
theorem dX6_close_5 : decode cX6_close 5 = .ok (.astore_n 2, 1) := by decide +kernel
theorem dX6_close_6 : decode cX6_close 6 = .ok (.aload_n 2, 1) := by decide +kernel
theorem dX6_close_7 : decode cX6_close 7 = .ok (.iconst 0, 1) := by decide +kernel
theorem dX6_close_8 : decode cX6_close 8 = .ok (.putfield 77, 3) := by decide +kernel
theorem dX6_close_11 : decode cX6_close 11 = .ok (.aload_n 2, 1) := by decide +kernel
theorem dX6_close_12 : decode cX6_close 12 = .ok (.getfield 81, 3) := by decide +kernel
theorem dX6_close_15 : decode cX6_close 15 = .ok (.ireturn, 1) := by decide +kernel
abbrev rm6_close : Room := { frames := 7, cells := 1, slots := 6, locals := 112 }
theorem hd6_close : yX6_close.cls ≠ "java/lang/invoke/MethodHandle" ∧ yX6_close.cls ≠ "java/lang/invoke/VarHandle" ∧ (parseMethodDescriptor yX6_close.desc).map (fun d => d.parameters.length) = some 1 := by decide +kernel
set_option maxHeartbeats 4000000 in
set_option maxRecDepth 20000 in
theorem m6_close (l : Launch) (hl : l.stackTraces = false) (G : xG) (ρ : Nm → Nat) (this : Nm) (p1 : Int32) (σ : PH) (Q : Int32 → PH → Prop) (Xp : String → PH → Prop) (h : w6_close this p1 σ Q Xp) : xMet l yX6_close (.code yX6_close cX6_close 3 (some .int)) rm6_close G ρ σ [.ref (ρ this), .int p1] (eI ρ Q) Xp := by
  refine xMet.of hl (by decide +kernel) (Nat.le_of_ble_eq_true rfl) (fun X hC hr hn htab h0 => ?_)
  have hC : xC G X "PlantServer" cX6_close 3 rm6_close := hC
  unfold w6_close at h
  refine xJ.loc (L' := [(0, .ref (ρ this)), (1, .int p1)]) rfl ?_
  refine x_aload_n hC 0 rfl dX6_close_0 ?_
  refine x_iload_n hC 1 rfl dX6_close_1 ?_
  obtain ⟨k1, h⟩ := h
  refine x_callV (n0 := this) (as := [.int p1]) (rest := []) hC (ci := 6) (r := (RX6, TX6, 9)) k1 rfl (fun l hl => m6_openSubscription l hl G ρ this p1 σ _ Xp h) q274 q276 s2 q1 q277 ⟨rfl, hd6_openSubscription⟩ (by decide) ⟨(by decide), (by decide)⟩ (by first | exact Nat.le_of_ble_eq_true rfl | (simp [rv_cat]; done) | (simp (decide := true) [rv_cat, cat_ref, cat_int]; done)) rfl dX6_close_2 (fun E σ9 hx => x_out hC h0 htab (by decide) (by decide) hx) (fun v1 σ1 ρ1 hp1 hag1 => ?_)
  obtain ⟨e9, r1, e8, h⟩ := hp1
  rw [e8, e9]
  refine xJ.nrm (k' := 1) (n' := 6) (pc' := 5) (st' := [rv ρ r1]) rfl rfl rfl rfl ?_
  refine x_astore_nQ (o := r1) (L' := [(2, rv ρ r1), (0, .ref (ρ this)), (1, .int p1)]) hC dX6_close_5 (by decide) (by first | rfl | simp (decide := true) [rv_cat, cat_ref, cat_int]) ?_
  refine x_aload_nQ (o := r1) hC 0 rfl dX6_close_6 ?_
  refine x_iconst (v := 0) hC dX6_close_7 (by decide) ?_
  obtain ⟨m1, hm1, h⟩ := h
  rw [show rv ρ r1 = Value.ref (ρ m1) from by rw [hm1]; rfl]
  obtain ⟨k2, h⟩ := h
  refine x_putZ (n0 := m1) hC (ci := 4) (T := TX4) (N := 14) (C := RX4) 7 k2 rfl rfl (by decide) rfl q216 rfl (tyX4_ok 7 (by decide)) zb0 dX6_close_8 ?_
  refine xJ.nmH (fun σ2 e1 => ?_)
  have h := h σ2 e1
  have r2 : hR σ2 = hR σ1 ∧ hL σ2 = hL σ1 := by rw [e1]; exact ⟨rfl, rfl⟩
  refine x_aload_n hC 0 rfl dX6_close_11 ?_
  have k3 : hK σ2 m1 = 5 := by rw [e1]; exact k2
  refine x_getI (n0 := m1) hC (ci := 4) (T := TX4) (N := 14) (C := RX4) 8 k3 rfl rfl (by decide) rfl q218 dX6_close_12 ?_
  exact x_iret hC hr dX6_close_15 (by decide) (by decide) ⟨rfl, _, rfl, h⟩
/-! PlantServerLaw.close -/
theorem dL_close_0 : decode cL_close 0 = .ok (.aload_n 0, 1) := by decide +kernel
theorem dL_close_1 : decode cL_close 1 = .ok (.iload_n 1, 1) := by decide +kernel
theorem dL_close_2 : decode cL_close 2 = .ok (.invokevirtual 24, 3) := by decide +kernel
theorem dL_close_5 : decode cL_close 5 = .ok (.istore_n 2, 1) := by decide +kernel
theorem dL_close_6 : decode cL_close 6 = .ok (.goto 8, 3) := by decide +kernel
theorem dL_close_9 : decode cL_close 9 = .ok (.astore_n 3, 1) := by decide +kernel
theorem dL_close_10 : decode cL_close 10 = .ok (.sipush (-7100), 3) := by decide +kernel
theorem dL_close_13 : decode cL_close 13 = .ok (.ireturn, 1) := by decide +kernel
theorem dL_close_14 : decode cL_close 14 = .ok (.iload_n 2, 1) := by decide +kernel
theorem dL_close_15 : decode cL_close 15 = .ok (.ireturn, 1) := by decide +kernel
abbrev rmL_close : Room := { frames := 8, cells := 1, slots := 6, locals := 134 }
theorem hdL_close : yL_close.cls ≠ "java/lang/invoke/MethodHandle" ∧ yL_close.cls ≠ "java/lang/invoke/VarHandle" ∧ (parseMethodDescriptor yL_close.desc).map (fun d => d.parameters.length) = some 2 := by decide +kernel
set_option maxHeartbeats 4000000 in
set_option maxRecDepth 20000 in
theorem mL_close (l : Launch) (hl : l.stackTraces = false) (G : xG) (ρ : Nm → Nat) (a1 : Nm) (p2 : Int32) (σ : PH) (Q : Int32 → PH → Prop) (h : wL_close a1 p2 σ Q) : xMet l yL_close (.codeWith yL_close cL_close 4 (some .int) [(0, 6, 9, 14)]) rmL_close G ρ σ [.ref (ρ a1), .int p2] (eI ρ Q) xNo := by
  refine xMet.ofW hl (by decide +kernel) (Nat.le_of_ble_eq_true rfl) (fun X hC hr hn htab h0 => ?_)
  have hC : xC G X "PlantServerLaw" cL_close 4 rmL_close := hC
  unfold wL_close at h
  refine xJ.loc (L' := [(0, .ref (ρ a1)), (1, .int p2)]) rfl ?_
  refine x_aload_n hC 0 rfl dL_close_0 ?_
  refine x_iload_n hC 1 rfl dL_close_1 ?_
  obtain ⟨k1, h⟩ := h
  refine x_callV (n0 := a1) (as := [.int p2]) (rest := []) hC (ci := 6) (r := (RX6, TX6, 9)) k1 rfl (fun l hl => m6_close l hl G ρ a1 p2 σ _ _ h) q270 q271 q272 q1 q273 ⟨rfl, hd6_close⟩ (by decide) ⟨(by decide), (by decide)⟩ (by first | exact Nat.le_of_ble_eq_true rfl | (simp [rv_cat]; done) | (simp (decide := true) [rv_cat, cat_ref, cat_int]; done)) rfl dL_close_2 (fun E σ2 hx => ?_) (fun v1 σ1 ρ1 hp1 hag1 => ?_)
  · have hE9 := hx.2
    have he := hE9
    have h := hx.1 he
    subst he
    refine x_catch hC [] [] (0, 6, 9, 14) htab (by intro z hz; simp at hz) (by decide) (by decide) q269 xcast_xIO (fun qx1 => ?_)
    refine xJ.nrm (k' := 1) (n' := 6) (pc' := 9) (st' := [.ref qx1]) rfl rfl rfl rfl ?_
    refine x_astore_n (L' := [(3, .ref qx1), (0, .ref (ρ a1)), (1, .int p2)]) hC dL_close_9 (by decide) (by first | rfl | simp (decide := true) [rv_cat, cat_ref, cat_int]) ?_
    refine x_sipush (v := (-7100)) hC dL_close_10 (by decide) ?_
    exact x_iret hC hr dL_close_13 (by decide) (by decide) ⟨rfl, _, rfl, h⟩
  · obtain ⟨e9, r1, e8, h⟩ := hp1
    rw [e8, e9]
    refine xJ.nrm (k' := 1) (n' := 6) (pc' := 5) (st' := [.int r1]) rfl rfl rfl rfl ?_
    refine x_istore_n (L' := [(2, .int r1), (0, .ref (ρ a1)), (1, .int p2)]) hC dL_close_5 (by decide) (by first | rfl | simp (decide := true) [rv_cat, cat_ref, cat_int]) ?_
    refine x_goto (tgt := 14) hC dL_close_6 (by decide) ?_
    refine x_iload_n hC 0 rfl dL_close_14 ?_
    exact x_iret hC hr dL_close_15 (by decide) (by decide) ⟨rfl, _, rfl, h⟩
/-! PlantServer.checkNode -/
theorem dX6_checkNode_0 : decode cX6_checkNode 0 = .ok (.iload_n 0, 1) := by decide +kernel
theorem dX6_checkNode_1 : decode cX6_checkNode 1 = .ok (.ifCond .lt 9, 3) := by decide +kernel
theorem dX6_checkNode_4 : decode cX6_checkNode 4 = .ok (.iload_n 0, 1) := by decide +kernel
theorem dX6_checkNode_5 : decode cX6_checkNode 5 = .ok (.bipush 10, 2) := by decide +kernel
theorem dX6_checkNode_7 : decode cX6_checkNode 7 = .ok (.if_icmp .lt 13, 3) := by decide +kernel
theorem dX6_checkNode_10 : decode cX6_checkNode 10 = .ok (.new 185, 3) := by decide +kernel
theorem dX6_checkNode_13 : decode cX6_checkNode 13 = .ok (.dup, 1) := by decide +kernel
theorem dX6_checkNode_14 : decode cX6_checkNode 14 = .ok (.ldc 187, 2) := by decide +kernel
theorem dX6_checkNode_16 : decode cX6_checkNode 16 = .ok (.invokespecial 189, 3) := by decide +kernel
theorem dX6_checkNode_19 : decode cX6_checkNode 19 = .ok (.athrow, 1) := by decide +kernel
theorem dX6_checkNode_20 : decode cX6_checkNode 20 = .ok (.return_, 1) := by decide +kernel
abbrev rm6_checkNode : Room := { frames := 6, cells := 1, slots := 6, locals := 90 }
theorem hd6_checkNode : yX6_checkNode.cls ≠ "java/lang/invoke/MethodHandle" ∧ yX6_checkNode.cls ≠ "java/lang/invoke/VarHandle" ∧ (parseMethodDescriptor yX6_checkNode.desc).map (fun d => d.parameters.length) = some 1 := by decide +kernel
set_option maxHeartbeats 4000000 in
set_option maxRecDepth 20000 in
theorem m6_checkNode (l : Launch) (hl : l.stackTraces = false) (G : xG) (ρ : Nm → Nat) (p1 : Int32) (σ : PH) (Q : PH → Prop) (Xp : String → PH → Prop) (h : w6_checkNode p1 σ Q Xp) : xMet l yX6_checkNode (.code yX6_checkNode cX6_checkNode 1 none) rm6_checkNode G ρ σ [.int p1] (eV ρ Q) Xp := by
  refine xMet.of hl (by decide +kernel) (Nat.le_of_ble_eq_true rfl) (fun X hC hr hn htab h0 => ?_)
  have hC : xC G X "PlantServer" cX6_checkNode 1 rm6_checkNode := hC
  unfold w6_checkNode at h
  refine xJ.loc (L' := [(0, .int p1)]) rfl ?_
  refine x_iload_n hC 0 rfl dX6_checkNode_0 ?_
  refine x_if_lt (tgt := 10) hC dX6_checkNode_1 (by decide) (fun c1 => ?_) (fun c1 => ?_)
  · have h := h.1 c1
    exact x_throw (E := xIO) (text := "there is no such node") (is := 187) hC h0 htab (by decide +kernel) (by decide +kernel) q278 q7 xhat_xIO xgood_xIO dX6_checkNode_10 dX6_checkNode_13 dX6_checkNode_14 dX6_checkNode_16 dX6_checkNode_19 (by decide) (by first | exact Nat.le_of_ble_eq_true rfl | (simp [rv_cat]; done) | (simp (decide := true) [rv_cat, cat_ref, cat_int]; done)) (by decide) (by decide) h
  · have h := h.2 c1
    refine x_iload_n hC 0 rfl dX6_checkNode_4 ?_
    refine x_bipush (v := 10) hC dX6_checkNode_5 (by decide) ?_
    refine x_icmp_lt (tgt := 20) hC dX6_checkNode_7 (by decide) (fun c2 => ?_) (fun c2 => ?_)
    · have h := h.1 c2
      exact x_vret hC hr dX6_checkNode_20 (by decide) (by decide) ⟨rfl, rfl, h⟩
    · have h := h.2 c2
      exact x_throw (E := xIO) (text := "there is no such node") (is := 187) hC h0 htab (by decide +kernel) (by decide +kernel) q278 q7 xhat_xIO xgood_xIO dX6_checkNode_10 dX6_checkNode_13 dX6_checkNode_14 dX6_checkNode_16 dX6_checkNode_19 (by decide) (by first | exact Nat.le_of_ble_eq_true rfl | (simp [rv_cat]; done) | (simp (decide := true) [rv_cat, cat_ref, cat_int]; done)) (by decide) (by decide) h
/-! PlantServer$Queue.<init> -/
theorem dX3_init_0 : decode cX3_init 0 = .ok (.aload_n 0, 1) := by decide +kernel
theorem dX3_init_1 : decode cX3_init 1 = .ok (.invokespecial 3, 3) := by decide +kernel
theorem dX3_init_4 : decode cX3_init 4 = .ok (.aload_n 0, 1) := by decide +kernel
theorem dX3_init_5 : decode cX3_init 5 = .ok (.iconst 4, 1) := by decide +kernel
theorem dX3_init_6 : decode cX3_init 6 = .ok (.newarray .int, 2) := by decide +kernel
theorem dX3_init_8 : decode cX3_init 8 = .ok (.putfield 9, 3) := by decide +kernel
theorem dX3_init_11 : decode cX3_init 11 = .ok (.aload_n 0, 1) := by decide +kernel
theorem dX3_init_12 : decode cX3_init 12 = .ok (.iconst 4, 1) := by decide +kernel
theorem dX3_init_13 : decode cX3_init 13 = .ok (.newarray .boolean, 2) := by decide +kernel
theorem dX3_init_15 : decode cX3_init 15 = .ok (.putfield 15, 3) := by decide +kernel
theorem dX3_init_18 : decode cX3_init 18 = .ok (.aload_n 0, 1) := by decide +kernel
theorem dX3_init_19 : decode cX3_init 19 = .ok (.iconst 0, 1) := by decide +kernel
theorem dX3_init_20 : decode cX3_init 20 = .ok (.putfield 19, 3) := by decide +kernel
theorem dX3_init_23 : decode cX3_init 23 = .ok (.aload_n 0, 1) := by decide +kernel
theorem dX3_init_24 : decode cX3_init 24 = .ok (.iload_n 1, 1) := by decide +kernel
theorem dX3_init_25 : decode cX3_init 25 = .ok (.putfield 23, 3) := by decide +kernel
theorem dX3_init_28 : decode cX3_init 28 = .ok (.aload_n 0, 1) := by decide +kernel
theorem dX3_init_29 : decode cX3_init 29 = .ok (.iload_n 2, 1) := by decide +kernel
theorem dX3_init_30 : decode cX3_init 30 = .ok (.putfield 26, 3) := by decide +kernel
theorem dX3_init_33 : decode cX3_init 33 = .ok (.return_, 1) := by decide +kernel
abbrev rm3_init : Room := { frames := 1, cells := 2, slots := 8, locals := 20 }
theorem hd3_init : yX3_init.cls ≠ "java/lang/invoke/MethodHandle" ∧ yX3_init.cls ≠ "java/lang/invoke/VarHandle" ∧ (parseMethodDescriptor yX3_init.desc).map (fun d => d.parameters.length) = some 2 := by decide +kernel
set_option maxHeartbeats 4000000 in
set_option maxRecDepth 20000 in
theorem m3_init (l : Launch) (hl : l.stackTraces = false) (G : xG) (ρ : Nm → Nat) (this : Nm) (p1 : Int32) (p2 : Int32) (σ : PH) (Q : PH → Prop) (h : w3_init this p1 p2 σ Q) : xMet l yX3_init (.code yX3_init cX3_init 3 none) rm3_init G ρ σ [.ref (ρ this), .int p1, .int p2] (eVA Q) xNo := by
  refine xMet.of hl (by decide +kernel) (Nat.le_of_ble_eq_true rfl) (fun X hC hr hn htab h0 => ?_)
  have hC : xC G X "PlantServer$Queue" cX3_init 3 rm3_init := hC
  unfold w3_init at h
  refine xJ.loc (L' := [(0, .ref (ρ this)), (1, .int p1), (2, .int p2)]) rfl ?_
  refine x_aload_n hC 0 rfl dX3_init_0 ?_
  refine x_oinit hC q313 q22 q23 (by decide) (by first | exact Nat.le_of_ble_eq_true rfl | (simp [rv_cat]; done) | (simp (decide := true) [rv_cat, cat_ref, cat_int]; done)) dX3_init_1 ?_
  refine x_aload_n hC 0 rfl dX3_init_4 ?_
  refine x_iconst (v := 4) hC dX3_init_5 (by decide) ?_
  obtain ⟨n1, hz1, h⟩ := h
  obtain ⟨z1, h⟩ := h
  refine x_newa (kd := 9) (N := 4) (by decide) hC n1 hz1 .int rfl (by decide) (by decide) q48 (by decide) (by decide) dX3_init_6 (fun ρ1 hρ1 => ?_)
  rw [← hρ1 this z1]
  refine xJ.nmH (fun σ1 e1 => ?_)
  have h := h σ1 e1
  have k1 : hK σ1 n1 = 9 := by rw [e1]; exact sN_c
  obtain ⟨k2, h⟩ := h
  refine x_putRF (m0 := n1) (n0 := this) hC (ci := 3) (T := TX3) (N := 5) (C := RX3) 2 k2 rfl rfl (by decide) rfl q316 rfl rfl hn (tyX3_ok 2 (by decide)) rfl rfl (by rw [k1]; decide) dX3_init_8 ?_
  refine xJ.nmH (fun σ2 e2 => ?_)
  have h := h σ2 e2
  have r1 : hR σ2 = hR σ2 ∧ hL σ2 = hL σ1 := by rw [e2]; exact ⟨rfl, rfl⟩
  refine x_aload_n hC 0 rfl dX3_init_11 ?_
  refine x_iconst (v := 4) hC dX3_init_12 (by decide) ?_
  obtain ⟨n2, hz2, h⟩ := h
  have k3 : hK σ2 this = 4 := by rw [e2]; exact k2
  refine x_newa (kd := 10) (N := 4) (by decide) hC n2 hz2 .boolean rfl (by decide) (by decide) q335 (by decide) (by decide) dX3_init_13 (fun ρ2 hρ2 => ?_)
  rw [← hρ2 this (by rw [k3]; decide)]
  refine xJ.nmH (fun σ3 e3 => ?_)
  have h := h σ3 e3
  have k4 : hK σ3 n2 = 10 := by rw [e3]; exact sN_c
  have k5 : hK σ3 this = 4 := by rw [e3]; exact sN_k hz2 k3 (by decide)
  refine x_putRF (m0 := n2) (n0 := this) hC (ci := 3) (T := TX3) (N := 5) (C := RX3) 3 k5 rfl rfl (by decide) rfl q318 rfl rfl hn (tyX3_ok 3 (by decide)) rfl rfl (by rw [k4]; decide) dX3_init_15 ?_
  refine xJ.nmH (fun σ4 e4 => ?_)
  have h := h σ4 e4
  have r2 : hR σ4 = hR σ4 ∧ hL σ4 = hL σ3 := by rw [e4]; exact ⟨rfl, rfl⟩
  refine x_aload_n hC 0 rfl dX3_init_18 ?_
  refine x_iconst (v := 0) hC dX3_init_19 (by decide) ?_
  have k6 : hK σ4 this = 4 := by rw [e4]; exact k5
  refine x_putI (n0 := this) hC (ci := 3) (T := TX3) (N := 5) (C := RX3) 4 k6 rfl rfl (by decide) rfl q320 rfl (tyX3_ok 4 (by decide)) dX3_init_20 ?_
  refine xJ.nmH (fun σ5 e5 => ?_)
  have h := h σ5 e5
  have r3 : hR σ5 = hR σ4 ∧ hL σ5 = hL σ3 := by rw [e5]; exact ⟨r2.1, r2.2⟩
  refine x_aload_n hC 0 rfl dX3_init_23 ?_
  refine x_iload_n hC 1 rfl dX3_init_24 ?_
  have k7 : hK σ5 this = 4 := by rw [e5]; exact k6
  refine x_putIF (n0 := this) hC (ci := 3) (T := TX3) (N := 5) (C := RX3) 0 k7 rfl rfl (by decide) rfl q314 rfl rfl hn (tyX3_ok 0 (by decide)) dX3_init_25 ?_
  refine xJ.nmH (fun σ6 e6 => ?_)
  have h := h σ6 e6
  have r4 : hR σ6 = hR σ4 ∧ hL σ6 = hL σ3 := by rw [e6]; exact ⟨r3.1, r3.2⟩
  refine x_aload_n hC 0 rfl dX3_init_28 ?_
  refine x_iload_n hC 2 rfl dX3_init_29 ?_
  have k8 : hK σ6 this = 4 := by rw [e6]; exact k7
  obtain ⟨zh1, h⟩ := h
  refine x_putZF (n0 := this) hC (ci := 3) (T := TX3) (N := 5) (C := RX3) 1 k8 rfl rfl (by decide) rfl q315 rfl rfl hn (tyX3_ok 1 (by decide)) zh1 dX3_init_30 ?_
  refine xJ.nmH (fun σ7 e7 => ?_)
  have h := h σ7 e7
  have r5 : hR σ7 = hR σ4 ∧ hL σ7 = hL σ3 := by rw [e7]; exact ⟨r4.1, r4.2⟩
  exact x_vret hC hr dX3_init_33 (by decide) (by decide) ⟨rfl, h⟩
