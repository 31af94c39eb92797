/-! PlantServer$History.<init> -/
theorem dX0_init_0 : decode cX0_init 0 = .ok (.aload_n 0, 1) := by decide +kernel
theorem dX0_init_1 : decode cX0_init 1 = .ok (.invokespecial 3, 3) := by decide +kernel
theorem dX0_init_4 : decode cX0_init 4 = .ok (.aload_n 0, 1) := by decide +kernel
theorem dX0_init_5 : decode cX0_init 5 = .ok (.sipush 512, 3) := by decide +kernel
theorem dX0_init_8 : decode cX0_init 8 = .ok (.newarray .int, 2) := by decide +kernel
theorem dX0_init_10 : decode cX0_init 10 = .ok (.putfield 9, 3) := by decide +kernel
theorem dX0_init_13 : decode cX0_init 13 = .ok (.aload_n 0, 1) := by decide +kernel
theorem dX0_init_14 : decode cX0_init 14 = .ok (.sipush 512, 3) := by decide +kernel
theorem dX0_init_17 : decode cX0_init 17 = .ok (.newarray .int, 2) := by decide +kernel
theorem dX0_init_19 : decode cX0_init 19 = .ok (.putfield 15, 3) := by decide +kernel
theorem dX0_init_22 : decode cX0_init 22 = .ok (.aload_n 0, 1) := by decide +kernel
theorem dX0_init_23 : decode cX0_init 23 = .ok (.sipush 512, 3) := by decide +kernel
theorem dX0_init_26 : decode cX0_init 26 = .ok (.newarray .int, 2) := by decide +kernel
theorem dX0_init_28 : decode cX0_init 28 = .ok (.putfield 18, 3) := by decide +kernel
theorem dX0_init_31 : decode cX0_init 31 = .ok (.aload_n 0, 1) := by decide +kernel
theorem dX0_init_32 : decode cX0_init 32 = .ok (.iconst 0, 1) := by decide +kernel
theorem dX0_init_33 : decode cX0_init 33 = .ok (.putfield 21, 3) := by decide +kernel
theorem dX0_init_36 : decode cX0_init 36 = .ok (.return_, 1) := by decide +kernel
abbrev rm0_init : Room := { frames := 1, cells := 3, slots := 1536, locals := 20 }
theorem hd0_init : yX0_init.cls ≠ "java/lang/invoke/MethodHandle" ∧ yX0_init.cls ≠ "java/lang/invoke/VarHandle" ∧ (parseMethodDescriptor yX0_init.desc).map (fun d => d.parameters.length) = some 0 := by decide +kernel
set_option maxHeartbeats 4000000 in
set_option maxRecDepth 20000 in
theorem m0_init (l : Launch) (hl : l.stackTraces = false) (G : xG) (ρ : Nm → Nat) (this : Nm) (σ : PH) (Q : PH → Prop) (h : w0_init this σ Q) : xMet l yX0_init (.code yX0_init cX0_init 1 none) rm0_init G ρ σ [.ref (ρ this)] (eVA Q) xNo := by
  refine xMet.of hl (by decide +kernel) (Nat.le_of_ble_eq_true rfl) (fun X hC hr hn htab h0 => ?_)
  have hC : xC G X "PlantServer$History" cX0_init 1 rm0_init := hC
  unfold w0_init at h
  refine xJ.loc (L' := [(0, .ref (ρ this))]) rfl ?_
  refine x_aload_n hC 0 rfl dX0_init_0 ?_
  refine x_oinit hC q34 q23 q24 (by decide) (by first | exact Nat.le_of_ble_eq_true rfl | (simp [rv_cat]; done) | (simp (decide := true) [rv_cat, cat_ref, cat_int]; done)) dX0_init_1 ?_
  refine x_aload_n hC 0 rfl dX0_init_4 ?_
  refine x_sipush (v := 512) hC dX0_init_5 (by decide) ?_
  obtain ⟨n1, hz1, h⟩ := h
  obtain ⟨z1, h⟩ := h
  refine x_newa (kd := 9) (N := 512) (by decide) hC n1 hz1 .int rfl (by decide) (by decide) q49 (by decide) (by decide) dX0_init_8 (fun ρ1 hρ1 => ?_)
  rw [← hρ1 this z1]
  refine xJ.nmH (fun σ1 e1 => ?_)
  have h := h σ1 e1
  have k1 : hK σ1 n1 = 9 := by rw [e1]; exact sN_c
  obtain ⟨k2, h⟩ := h
  refine x_putRF (m0 := n1) (n0 := this) hC (ci := 0) (T := TX0) (N := 4) (C := RX0) 0 k2 rfl rfl (by decide) rfl q35 rfl rfl hn (tyX0_ok 0 (by decide)) rfl rfl (by rw [k1]; decide) dX0_init_10 ?_
  refine xJ.nmH (fun σ2 e2 => ?_)
  have h := h σ2 e2
  have r1 : hR σ2 = hR σ2 ∧ hL σ2 = hL σ1 := by rw [e2]; exact ⟨rfl, rfl⟩
  refine x_aload_n hC 0 rfl dX0_init_13 ?_
  refine x_sipush (v := 512) hC dX0_init_14 (by decide) ?_
  obtain ⟨n2, hz2, h⟩ := h
  have k3 : hK σ2 this = 1 := by rw [e2]; exact k2
  refine x_newa (kd := 9) (N := 512) (by decide) hC n2 hz2 .int rfl (by decide) (by decide) q49 (by decide) (by decide) dX0_init_17 (fun ρ2 hρ2 => ?_)
  rw [← hρ2 this (by rw [k3]; decide)]
  refine xJ.nmH (fun σ3 e3 => ?_)
  have h := h σ3 e3
  have k4 : hK σ3 n2 = 9 := by rw [e3]; exact sN_c
  have k5 : hK σ3 this = 1 := by rw [e3]; exact sN_k hz2 k3 (by decide)
  refine x_putRF (m0 := n2) (n0 := this) hC (ci := 0) (T := TX0) (N := 4) (C := RX0) 1 k5 rfl rfl (by decide) rfl q36 rfl rfl hn (tyX0_ok 1 (by decide)) rfl rfl (by rw [k4]; decide) dX0_init_19 ?_
  refine xJ.nmH (fun σ4 e4 => ?_)
  have h := h σ4 e4
  have r2 : hR σ4 = hR σ4 ∧ hL σ4 = hL σ3 := by rw [e4]; exact ⟨rfl, rfl⟩
  refine x_aload_n hC 0 rfl dX0_init_22 ?_
  refine x_sipush (v := 512) hC dX0_init_23 (by decide) ?_
  obtain ⟨n3, hz3, h⟩ := h
  have k6 : hK σ4 this = 1 := by rw [e4]; exact k5
  refine x_newa (kd := 9) (N := 512) (by decide) hC n3 hz3 .int rfl (by decide) (by decide) q49 (by decide) (by decide) dX0_init_26 (fun ρ3 hρ3 => ?_)
  rw [← hρ3 this (by rw [k6]; decide)]
  refine xJ.nmH (fun σ5 e5 => ?_)
  have h := h σ5 e5
  have k7 : hK σ5 n3 = 9 := by rw [e5]; exact sN_c
  have k8 : hK σ5 this = 1 := by rw [e5]; exact sN_k hz3 k6 (by decide)
  refine x_putRF (m0 := n3) (n0 := this) hC (ci := 0) (T := TX0) (N := 4) (C := RX0) 2 k8 rfl rfl (by decide) rfl q37 rfl rfl hn (tyX0_ok 2 (by decide)) rfl rfl (by rw [k7]; decide) dX0_init_28 ?_
  refine xJ.nmH (fun σ6 e6 => ?_)
  have h := h σ6 e6
  have r3 : hR σ6 = hR σ6 ∧ hL σ6 = hL σ5 := by rw [e6]; exact ⟨rfl, rfl⟩
  refine x_aload_n hC 0 rfl dX0_init_31 ?_
  refine x_iconst (v := 0) hC dX0_init_32 (by decide) ?_
  have k9 : hK σ6 this = 1 := by rw [e6]; exact k8
  refine x_putI (n0 := this) hC (ci := 0) (T := TX0) (N := 4) (C := RX0) 3 k9 rfl rfl (by decide) rfl q38 rfl (tyX0_ok 3 (by decide)) dX0_init_33 ?_
  refine xJ.nmH (fun σ7 e7 => ?_)
  have h := h σ7 e7
  have r4 : hR σ7 = hR σ6 ∧ hL σ7 = hL σ5 := by rw [e7]; exact ⟨r3.1, r3.2⟩
  exact x_vret hC hr dX0_init_36 (by decide) (by decide) ⟨rfl, h⟩
/-! PlantServer.<init> -/
theorem dX6_init_0 : decode cX6_init 0 = .ok (.aload_n 0, 1) := by decide +kernel
theorem dX6_init_1 : decode cX6_init 1 = .ok (.invokespecial 1, 3) := by decide +kernel
theorem dX6_init_4 : decode cX6_init 4 = .ok (.aload_n 0, 1) := by decide +kernel
theorem dX6_init_5 : decode cX6_init 5 = .ok (.bipush 10, 2) := by decide +kernel
theorem dX6_init_7 : decode cX6_init 7 = .ok (.newarray .int, 2) := by decide +kernel
theorem dX6_init_9 : decode cX6_init 9 = .ok (.putfield 9, 3) := by decide +kernel
theorem dX6_init_12 : decode cX6_init 12 = .ok (.aload_n 0, 1) := by decide +kernel
theorem dX6_init_13 : decode cX6_init 13 = .ok (.iconst 4, 1) := by decide +kernel
theorem dX6_init_14 : decode cX6_init 14 = .ok (.anewarray 13, 3) := by decide +kernel
theorem dX6_init_17 : decode cX6_init 17 = .ok (.putfield 15, 3) := by decide +kernel
theorem dX6_init_20 : decode cX6_init 20 = .ok (.aload_n 0, 1) := by decide +kernel
theorem dX6_init_21 : decode cX6_init 21 = .ok (.iconst 4, 1) := by decide +kernel
theorem dX6_init_22 : decode cX6_init 22 = .ok (.anewarray 13, 3) := by decide +kernel
theorem dX6_init_25 : decode cX6_init 25 = .ok (.putfield 19, 3) := by decide +kernel
theorem dX6_init_28 : decode cX6_init 28 = .ok (.aload_n 0, 1) := by decide +kernel
theorem dX6_init_29 : decode cX6_init 29 = .ok (.bipush 16, 2) := by decide +kernel
theorem dX6_init_31 : decode cX6_init 31 = .ok (.anewarray 22, 3) := by decide +kernel
theorem dX6_init_34 : decode cX6_init 34 = .ok (.putfield 24, 3) := by decide +kernel
theorem dX6_init_37 : decode cX6_init 37 = .ok (.aload_n 0, 1) := by decide +kernel
theorem dX6_init_38 : decode cX6_init 38 = .ok (.new 28, 3) := by decide +kernel
theorem dX6_init_41 : decode cX6_init 41 = .ok (.dup, 1) := by decide +kernel
theorem dX6_init_42 : decode cX6_init 42 = .ok (.invokespecial 30, 3) := by decide +kernel
theorem dX6_init_45 : decode cX6_init 45 = .ok (.putfield 31, 3) := by decide +kernel
theorem dX6_init_48 : decode cX6_init 48 = .ok (.aload_n 0, 1) := by decide +kernel
theorem dX6_init_49 : decode cX6_init 49 = .ok (.iconst 0, 1) := by decide +kernel
theorem dX6_init_50 : decode cX6_init 50 = .ok (.putfield 35, 3) := by decide +kernel
theorem dX6_init_53 : decode cX6_init 53 = .ok (.aload_n 0, 1) := by decide +kernel
theorem dX6_init_54 : decode cX6_init 54 = .ok (.iconst 0, 1) := by decide +kernel
theorem dX6_init_55 : decode cX6_init 55 = .ok (.putfield 39, 3) := by decide +kernel
theorem dX6_init_58 : decode cX6_init 58 = .ok (.aload_n 0, 1) := by decide +kernel
theorem dX6_init_59 : decode cX6_init 59 = .ok (.iconst 0, 1) := by decide +kernel
theorem dX6_init_60 : decode cX6_init 60 = .ok (.putfield 42, 3) := by decide +kernel
theorem dX6_init_63 : decode cX6_init 63 = .ok (.aload_n 0, 1) := by decide +kernel
theorem dX6_init_64 : decode cX6_init 64 = .ok (.iconst 0, 1) := by decide +kernel
theorem dX6_init_65 : decode cX6_init 65 = .ok (.putfield 45, 3) := by decide +kernel
theorem dX6_init_68 : decode cX6_init 68 = .ok (.return_, 1) := by decide +kernel
abbrev rm6_init : Room := { frames := 2, cells := 8, slots := 1574, locals := 40 }
theorem hd6_init : yX6_init.cls ≠ "java/lang/invoke/MethodHandle" ∧ yX6_init.cls ≠ "java/lang/invoke/VarHandle" ∧ (parseMethodDescriptor yX6_init.desc).map (fun d => d.parameters.length) = some 0 := by decide +kernel
set_option maxHeartbeats 4000000 in
set_option maxRecDepth 20000 in
theorem m6_init (l : Launch) (hl : l.stackTraces = false) (G : xG) (ρ : Nm → Nat) (this : Nm) (σ : PH) (Q : PH → Prop) (h : w6_init this σ Q) : xMet l yX6_init (.code yX6_init cX6_init 1 none) rm6_init G ρ σ [.ref (ρ this)] (eVA Q) xNo := by
  refine xMet.of hl (by decide +kernel) (Nat.le_of_ble_eq_true rfl) (fun X hC hr hn htab h0 => ?_)
  have hC : xC G X "PlantServer" cX6_init 1 rm6_init := hC
  unfold w6_init at h
  refine xJ.loc (L' := [(0, .ref (ρ this))]) rfl ?_
  refine x_aload_n hC 0 rfl dX6_init_0 ?_
  refine x_oinit hC q22 q23 q24 (by decide) (by first | exact Nat.le_of_ble_eq_true rfl | (simp [rv_cat]; done) | (simp (decide := true) [rv_cat, cat_ref, cat_int]; done)) dX6_init_1 ?_
  refine x_aload_n hC 0 rfl dX6_init_4 ?_
  refine x_bipush (v := 10) hC dX6_init_5 (by decide) ?_
  obtain ⟨n1, hz1, h⟩ := h
  obtain ⟨z1, h⟩ := h
  refine x_newa (kd := 9) (N := 10) (by decide) hC n1 hz1 .int rfl (by decide) (by decide) q49 (by decide) (by decide) dX6_init_7 (fun ρ1 hρ1 => ?_)
  rw [← hρ1 this z1]
  refine xJ.nmH (fun σ1 e1 => ?_)
  have h := h σ1 e1
  have k1 : hK σ1 n1 = 9 := by rw [e1]; exact sN_c
  obtain ⟨k2, h⟩ := h
  refine x_putRF (m0 := n1) (n0 := this) hC (ci := 6) (T := TX6) (N := 9) (C := RX6) 0 k2 rfl rfl (by decide) rfl q50 rfl rfl hn (tyX6_ok 0 (by decide)) rfl rfl (by rw [k1]; decide) dX6_init_9 ?_
  refine xJ.nmH (fun σ2 e2 => ?_)
  have h := h σ2 e2
  have r1 : hR σ2 = hR σ2 ∧ hL σ2 = hL σ1 := by rw [e2]; exact ⟨rfl, rfl⟩
  refine x_aload_n hC 0 rfl dX6_init_12 ?_
  refine x_iconst (v := 4) hC dX6_init_13 (by decide) ?_
  obtain ⟨n2, hz2, h⟩ := h
  have k3 : hK σ2 this = 7 := by rw [e2]; exact k2
  refine x_newq (kd := 13) (N := 4) (by decide) hC n2 hz2 (by decide) (by decide) q25 (by decide) (by decide) dX6_init_14 (fun ρ2 hρ2 => ?_)
  rw [← hρ2 this (by rw [k3]; decide)]
  refine xJ.nmH (fun σ3 e3 => ?_)
  have h := h σ3 e3
  have k4 : hK σ3 n2 = 13 := by rw [e3]; exact sN_c
  have k5 : hK σ3 this = 7 := by rw [e3]; exact sN_k hz2 k3 (by decide)
  refine x_putRF (m0 := n2) (n0 := this) hC (ci := 6) (T := TX6) (N := 9) (C := RX6) 1 k5 rfl rfl (by decide) rfl q51 rfl rfl hn (tyX6_ok 1 (by decide)) rfl rfl (by rw [k4]; decide) dX6_init_17 ?_
  refine xJ.nmH (fun σ4 e4 => ?_)
  have h := h σ4 e4
  have r2 : hR σ4 = hR σ4 ∧ hL σ4 = hL σ3 := by rw [e4]; exact ⟨rfl, rfl⟩
  refine x_aload_n hC 0 rfl dX6_init_20 ?_
  refine x_iconst (v := 4) hC dX6_init_21 (by decide) ?_
  obtain ⟨n3, hz3, h⟩ := h
  have k6 : hK σ4 this = 7 := by rw [e4]; exact k5
  refine x_newq (kd := 13) (N := 4) (by decide) hC n3 hz3 (by decide) (by decide) q25 (by decide) (by decide) dX6_init_22 (fun ρ3 hρ3 => ?_)
  rw [← hρ3 this (by rw [k6]; decide)]
  refine xJ.nmH (fun σ5 e5 => ?_)
  have h := h σ5 e5
  have k7 : hK σ5 n3 = 13 := by rw [e5]; exact sN_c
  have k8 : hK σ5 this = 7 := by rw [e5]; exact sN_k hz3 k6 (by decide)
  refine x_putRF (m0 := n3) (n0 := this) hC (ci := 6) (T := TX6) (N := 9) (C := RX6) 2 k8 rfl rfl (by decide) rfl q52 rfl rfl hn (tyX6_ok 2 (by decide)) rfl rfl (by rw [k7]; decide) dX6_init_25 ?_
  refine xJ.nmH (fun σ6 e6 => ?_)
  have h := h σ6 e6
  have r3 : hR σ6 = hR σ6 ∧ hL σ6 = hL σ5 := by rw [e6]; exact ⟨rfl, rfl⟩
  refine x_aload_n hC 0 rfl dX6_init_28 ?_
  refine x_bipush (v := 16) hC dX6_init_29 (by decide) ?_
  obtain ⟨n4, hz4, h⟩ := h
  have k9 : hK σ6 this = 7 := by rw [e6]; exact k8
  refine x_newq (kd := 11) (N := 16) (by decide) hC n4 hz4 (by decide) (by decide) q27 (by decide) (by decide) dX6_init_31 (fun ρ4 hρ4 => ?_)
  rw [← hρ4 this (by rw [k9]; decide)]
  refine xJ.nmH (fun σ7 e7 => ?_)
  have h := h σ7 e7
  have k10 : hK σ7 n4 = 11 := by rw [e7]; exact sN_c
  have k11 : hK σ7 this = 7 := by rw [e7]; exact sN_k hz4 k9 (by decide)
  refine x_putRF (m0 := n4) (n0 := this) hC (ci := 6) (T := TX6) (N := 9) (C := RX6) 3 k11 rfl rfl (by decide) rfl q53 rfl rfl hn (tyX6_ok 3 (by decide)) rfl rfl (by rw [k10]; decide) dX6_init_34 ?_
  refine xJ.nmH (fun σ8 e8 => ?_)
  have h := h σ8 e8
  have r4 : hR σ8 = hR σ8 ∧ hL σ8 = hL σ7 := by rw [e8]; exact ⟨rfl, rfl⟩
  refine x_aload_n hC 0 rfl dX6_init_37 ?_
  obtain ⟨n5, hz5, h⟩ := h
  have k12 : hK σ8 this = 7 := by rw [e8]; exact k11
  refine x_new (ci := 0) (T := TX0) (N := 4) (C := RX0) hC n5 hz5 rfl xdf0 q29 q30 q2 (by decide) (by decide) dX6_init_38 (fun ρ5 hρ5 => ?_)
  rw [← hρ5 this (by rw [k12]; decide)]
  refine xJ.nmH (fun σ9 e9 => ?_)
  have h := h σ9 e9
  have k13 : hK σ9 n5 = 1 := by rw [e9]; exact sN_c
  refine x_dup hC (by first | rfl | exact rv_cat) dX6_init_41 ?_
  have k14 : hK σ9 this = 7 := by rw [e9]; exact sN_k hz5 k12 (by decide)
  refine x_callIN (as := []) (rest := [.ref (ρ5 n5), .ref (ρ5 this)]) hC (fun l hl => m0_init l hl G ρ5 n5 σ9 _ h) qn_0 q32 q2 q33 rfl hd0_init (by decide) ⟨(by decide), (by decide)⟩ (by first | exact Nat.le_of_ble_eq_true rfl | (simp [rv_cat]; done) | (simp (decide := true) [rv_cat, cat_ref, cat_int]; done)) rfl dX6_init_42 (fun E σ9 hx => False.elim hx) (fun v1 σ10 ρ6 hp1 hag1 => ?_)
  obtain ⟨e8, h⟩ := hp1
  rw [e8]
  rw [← (hag1 this (by rw [k14]; decide)).2, ← (hag1 n5 (by rw [k13]; decide)).2]
  refine xJ.nrm (k' := 8) (n' := 1574) (pc' := 45) (st' := [.ref (ρ6 n5), .ref (ρ6 this)]) rfl rfl rfl rfl ?_
  have k15 : hK σ10 this = 7 := (hag1 this (by rw [k14]; decide)).1.trans k14
  have k16 : hK σ10 n5 = 1 := (hag1 n5 (by rw [k13]; decide)).1.trans k13
  refine x_putRF (m0 := n5) (n0 := this) hC (ci := 6) (T := TX6) (N := 9) (C := RX6) 4 k15 rfl rfl (by decide) rfl q54 rfl rfl hn (tyX6_ok 4 (by decide)) rfl rfl (by rw [k16]; decide) dX6_init_45 ?_
  refine xJ.nmH (fun σ11 e10 => ?_)
  have h := h σ11 e10
  have r5 : hR σ11 = hR σ11 ∧ hL σ11 = hL σ10 := by rw [e10]; exact ⟨rfl, rfl⟩
  refine x_aload_n hC 0 rfl dX6_init_48 ?_
  refine x_iconst (v := 0) hC dX6_init_49 (by decide) ?_
  have k17 : hK σ11 this = 7 := by rw [e10]; exact k15
  refine x_putI (n0 := this) hC (ci := 6) (T := TX6) (N := 9) (C := RX6) 5 k17 rfl rfl (by decide) rfl q55 rfl (tyX6_ok 5 (by decide)) dX6_init_50 ?_
  refine xJ.nmH (fun σ12 e11 => ?_)
  have h := h σ12 e11
  have r6 : hR σ12 = hR σ11 ∧ hL σ12 = hL σ10 := by rw [e11]; exact ⟨r5.1, r5.2⟩
  refine x_aload_n hC 0 rfl dX6_init_53 ?_
  refine x_iconst (v := 0) hC dX6_init_54 (by decide) ?_
  have k18 : hK σ12 this = 7 := by rw [e11]; exact k17
  refine x_putI (n0 := this) hC (ci := 6) (T := TX6) (N := 9) (C := RX6) 6 k18 rfl rfl (by decide) rfl q56 rfl (tyX6_ok 6 (by decide)) dX6_init_55 ?_
  refine xJ.nmH (fun σ13 e12 => ?_)
  have h := h σ13 e12
  have r7 : hR σ13 = hR σ11 ∧ hL σ13 = hL σ10 := by rw [e12]; exact ⟨r6.1, r6.2⟩
  refine x_aload_n hC 0 rfl dX6_init_58 ?_
  refine x_iconst (v := 0) hC dX6_init_59 (by decide) ?_
  have k19 : hK σ13 this = 7 := by rw [e12]; exact k18
  refine x_putI (n0 := this) hC (ci := 6) (T := TX6) (N := 9) (C := RX6) 7 k19 rfl rfl (by decide) rfl q57 rfl (tyX6_ok 7 (by decide)) dX6_init_60 ?_
  refine xJ.nmH (fun σ14 e13 => ?_)
  have h := h σ14 e13
  have r8 : hR σ14 = hR σ11 ∧ hL σ14 = hL σ10 := by rw [e13]; exact ⟨r7.1, r7.2⟩
  refine x_aload_n hC 0 rfl dX6_init_63 ?_
  refine x_iconst (v := 0) hC dX6_init_64 (by decide) ?_
  have k20 : hK σ14 this = 7 := by rw [e13]; exact k19
  refine x_putI (n0 := this) hC (ci := 6) (T := TX6) (N := 9) (C := RX6) 8 k20 rfl rfl (by decide) rfl q58 rfl (tyX6_ok 8 (by decide)) dX6_init_65 ?_
  refine xJ.nmH (fun σ15 e14 => ?_)
  have h := h σ15 e14
  have r9 : hR σ15 = hR σ11 ∧ hL σ15 = hL σ10 := by rw [e14]; exact ⟨r8.1, r8.2⟩
  exact x_vret hC hr dX6_init_68 (by decide) (by decide) ⟨rfl, h⟩
/-! PlantServerModel.<init> -/
theorem dX7_init_0 : decode cX7_init 0 = .ok (.aload_n 0, 1) := by decide +kernel
theorem dX7_init_1 : decode cX7_init 1 = .ok (.invokespecial 1, 3) := by decide +kernel
theorem dX7_init_4 : decode cX7_init 4 = .ok (.aload_n 0, 1) := by decide +kernel
theorem dX7_init_5 : decode cX7_init 5 = .ok (.bipush 10, 2) := by decide +kernel
theorem dX7_init_7 : decode cX7_init 7 = .ok (.newarray .int, 2) := by decide +kernel
theorem dX7_init_9 : decode cX7_init 9 = .ok (.putfield 7, 3) := by decide +kernel
theorem dX7_init_12 : decode cX7_init 12 = .ok (.aload_n 0, 1) := by decide +kernel
theorem dX7_init_13 : decode cX7_init 13 = .ok (.iconst 4, 1) := by decide +kernel
theorem dX7_init_14 : decode cX7_init 14 = .ok (.newarray .boolean, 2) := by decide +kernel
theorem dX7_init_16 : decode cX7_init 16 = .ok (.putfield 13, 3) := by decide +kernel
theorem dX7_init_19 : decode cX7_init 19 = .ok (.aload_n 0, 1) := by decide +kernel
theorem dX7_init_20 : decode cX7_init 20 = .ok (.iconst 4, 1) := by decide +kernel
theorem dX7_init_21 : decode cX7_init 21 = .ok (.newarray .int, 2) := by decide +kernel
theorem dX7_init_23 : decode cX7_init 23 = .ok (.putfield 17, 3) := by decide +kernel
theorem dX7_init_26 : decode cX7_init 26 = .ok (.aload_n 0, 1) := by decide +kernel
theorem dX7_init_27 : decode cX7_init 27 = .ok (.iconst 4, 1) := by decide +kernel
theorem dX7_init_28 : decode cX7_init 28 = .ok (.newarray .int, 2) := by decide +kernel
theorem dX7_init_30 : decode cX7_init 30 = .ok (.putfield 20, 3) := by decide +kernel
theorem dX7_init_33 : decode cX7_init 33 = .ok (.aload_n 0, 1) := by decide +kernel
theorem dX7_init_34 : decode cX7_init 34 = .ok (.iconst 4, 1) := by decide +kernel
theorem dX7_init_35 : decode cX7_init 35 = .ok (.newarray .int, 2) := by decide +kernel
theorem dX7_init_37 : decode cX7_init 37 = .ok (.putfield 23, 3) := by decide +kernel
theorem dX7_init_40 : decode cX7_init 40 = .ok (.aload_n 0, 1) := by decide +kernel
theorem dX7_init_41 : decode cX7_init 41 = .ok (.iconst 4, 1) := by decide +kernel
theorem dX7_init_42 : decode cX7_init 42 = .ok (.newarray .int, 2) := by decide +kernel
theorem dX7_init_44 : decode cX7_init 44 = .ok (.putfield 26, 3) := by decide +kernel
theorem dX7_init_47 : decode cX7_init 47 = .ok (.aload_n 0, 1) := by decide +kernel
theorem dX7_init_48 : decode cX7_init 48 = .ok (.iconst 4, 1) := by decide +kernel
theorem dX7_init_49 : decode cX7_init 49 = .ok (.newarray .int, 2) := by decide +kernel
theorem dX7_init_51 : decode cX7_init 51 = .ok (.putfield 29, 3) := by decide +kernel
theorem dX7_init_54 : decode cX7_init 54 = .ok (.aload_n 0, 1) := by decide +kernel
theorem dX7_init_55 : decode cX7_init 55 = .ok (.iconst 4, 1) := by decide +kernel
theorem dX7_init_56 : decode cX7_init 56 = .ok (.newarray .int, 2) := by decide +kernel
theorem dX7_init_58 : decode cX7_init 58 = .ok (.putfield 32, 3) := by decide +kernel
theorem dX7_init_61 : decode cX7_init 61 = .ok (.aload_n 0, 1) := by decide +kernel
theorem dX7_init_62 : decode cX7_init 62 = .ok (.iconst 4, 1) := by decide +kernel
theorem dX7_init_63 : decode cX7_init 63 = .ok (.newarray .int, 2) := by decide +kernel
theorem dX7_init_65 : decode cX7_init 65 = .ok (.putfield 35, 3) := by decide +kernel
theorem dX7_init_68 : decode cX7_init 68 = .ok (.aload_n 0, 1) := by decide +kernel
theorem dX7_init_69 : decode cX7_init 69 = .ok (.iconst 4, 1) := by decide +kernel
theorem dX7_init_70 : decode cX7_init 70 = .ok (.newarray .int, 2) := by decide +kernel
theorem dX7_init_72 : decode cX7_init 72 = .ok (.putfield 38, 3) := by decide +kernel
theorem dX7_init_75 : decode cX7_init 75 = .ok (.aload_n 0, 1) := by decide +kernel
theorem dX7_init_76 : decode cX7_init 76 = .ok (.iconst 4, 1) := by decide +kernel
theorem dX7_init_77 : decode cX7_init 77 = .ok (.newarray .int, 2) := by decide +kernel
theorem dX7_init_79 : decode cX7_init 79 = .ok (.putfield 41, 3) := by decide +kernel
theorem dX7_init_82 : decode cX7_init 82 = .ok (.aload_n 0, 1) := by decide +kernel
theorem dX7_init_83 : decode cX7_init 83 = .ok (.iconst 4, 1) := by decide +kernel
theorem dX7_init_84 : decode cX7_init 84 = .ok (.newarray .int, 2) := by decide +kernel
theorem dX7_init_86 : decode cX7_init 86 = .ok (.putfield 44, 3) := by decide +kernel
theorem dX7_init_89 : decode cX7_init 89 = .ok (.aload_n 0, 1) := by decide +kernel
theorem dX7_init_90 : decode cX7_init 90 = .ok (.bipush 16, 2) := by decide +kernel
theorem dX7_init_92 : decode cX7_init 92 = .ok (.newarray .int, 2) := by decide +kernel
theorem dX7_init_94 : decode cX7_init 94 = .ok (.putfield 47, 3) := by decide +kernel
theorem dX7_init_97 : decode cX7_init 97 = .ok (.aload_n 0, 1) := by decide +kernel
theorem dX7_init_98 : decode cX7_init 98 = .ok (.bipush 16, 2) := by decide +kernel
theorem dX7_init_100 : decode cX7_init 100 = .ok (.newarray .int, 2) := by decide +kernel
theorem dX7_init_102 : decode cX7_init 102 = .ok (.putfield 50, 3) := by decide +kernel
theorem dX7_init_105 : decode cX7_init 105 = .ok (.aload_n 0, 1) := by decide +kernel
theorem dX7_init_106 : decode cX7_init 106 = .ok (.bipush 16, 2) := by decide +kernel
theorem dX7_init_108 : decode cX7_init 108 = .ok (.newarray .int, 2) := by decide +kernel
theorem dX7_init_110 : decode cX7_init 110 = .ok (.putfield 53, 3) := by decide +kernel
theorem dX7_init_113 : decode cX7_init 113 = .ok (.aload_n 0, 1) := by decide +kernel
theorem dX7_init_114 : decode cX7_init 114 = .ok (.bipush 16, 2) := by decide +kernel
theorem dX7_init_116 : decode cX7_init 116 = .ok (.newarray .int, 2) := by decide +kernel
theorem dX7_init_118 : decode cX7_init 118 = .ok (.putfield 56, 3) := by decide +kernel
theorem dX7_init_121 : decode cX7_init 121 = .ok (.aload_n 0, 1) := by decide +kernel
theorem dX7_init_122 : decode cX7_init 122 = .ok (.bipush 16, 2) := by decide +kernel
theorem dX7_init_124 : decode cX7_init 124 = .ok (.newarray .int, 2) := by decide +kernel
theorem dX7_init_126 : decode cX7_init 126 = .ok (.putfield 59, 3) := by decide +kernel
theorem dX7_init_129 : decode cX7_init 129 = .ok (.aload_n 0, 1) := by decide +kernel
theorem dX7_init_130 : decode cX7_init 130 = .ok (.bipush 16, 2) := by decide +kernel
theorem dX7_init_132 : decode cX7_init 132 = .ok (.newarray .boolean, 2) := by decide +kernel
theorem dX7_init_134 : decode cX7_init 134 = .ok (.putfield 62, 3) := by decide +kernel
theorem dX7_init_137 : decode cX7_init 137 = .ok (.aload_n 0, 1) := by decide +kernel
theorem dX7_init_138 : decode cX7_init 138 = .ok (.bipush 16, 2) := by decide +kernel
theorem dX7_init_140 : decode cX7_init 140 = .ok (.newarray .int, 2) := by decide +kernel
theorem dX7_init_142 : decode cX7_init 142 = .ok (.putfield 65, 3) := by decide +kernel
theorem dX7_init_145 : decode cX7_init 145 = .ok (.aload_n 0, 1) := by decide +kernel
theorem dX7_init_146 : decode cX7_init 146 = .ok (.bipush 16, 2) := by decide +kernel
theorem dX7_init_148 : decode cX7_init 148 = .ok (.newarray .boolean, 2) := by decide +kernel
theorem dX7_init_150 : decode cX7_init 150 = .ok (.putfield 68, 3) := by decide +kernel
theorem dX7_init_153 : decode cX7_init 153 = .ok (.aload_n 0, 1) := by decide +kernel
theorem dX7_init_154 : decode cX7_init 154 = .ok (.bipush 16, 2) := by decide +kernel
theorem dX7_init_156 : decode cX7_init 156 = .ok (.newarray .int, 2) := by decide +kernel
theorem dX7_init_158 : decode cX7_init 158 = .ok (.putfield 71, 3) := by decide +kernel
theorem dX7_init_161 : decode cX7_init 161 = .ok (.aload_n 0, 1) := by decide +kernel
theorem dX7_init_162 : decode cX7_init 162 = .ok (.bipush 16, 2) := by decide +kernel
theorem dX7_init_164 : decode cX7_init 164 = .ok (.newarray .int, 2) := by decide +kernel
theorem dX7_init_166 : decode cX7_init 166 = .ok (.putfield 74, 3) := by decide +kernel
theorem dX7_init_169 : decode cX7_init 169 = .ok (.aload_n 0, 1) := by decide +kernel
theorem dX7_init_170 : decode cX7_init 170 = .ok (.bipush 16, 2) := by decide +kernel
theorem dX7_init_172 : decode cX7_init 172 = .ok (.newarray .int, 2) := by decide +kernel
theorem dX7_init_174 : decode cX7_init 174 = .ok (.putfield 77, 3) := by decide +kernel
theorem dX7_init_177 : decode cX7_init 177 = .ok (.aload_n 0, 1) := by decide +kernel
theorem dX7_init_178 : decode cX7_init 178 = .ok (.bipush 16, 2) := by decide +kernel
theorem dX7_init_180 : decode cX7_init 180 = .ok (.newarray .int, 2) := by decide +kernel
theorem dX7_init_182 : decode cX7_init 182 = .ok (.putfield 80, 3) := by decide +kernel
theorem dX7_init_185 : decode cX7_init 185 = .ok (.aload_n 0, 1) := by decide +kernel
theorem dX7_init_186 : decode cX7_init 186 = .ok (.bipush 64, 2) := by decide +kernel
theorem dX7_init_188 : decode cX7_init 188 = .ok (.newarray .int, 2) := by decide +kernel
theorem dX7_init_190 : decode cX7_init 190 = .ok (.putfield 83, 3) := by decide +kernel
theorem dX7_init_193 : decode cX7_init 193 = .ok (.aload_n 0, 1) := by decide +kernel
theorem dX7_init_194 : decode cX7_init 194 = .ok (.bipush 64, 2) := by decide +kernel
theorem dX7_init_196 : decode cX7_init 196 = .ok (.newarray .boolean, 2) := by decide +kernel
theorem dX7_init_198 : decode cX7_init 198 = .ok (.putfield 86, 3) := by decide +kernel
theorem dX7_init_201 : decode cX7_init 201 = .ok (.aload_n 0, 1) := by decide +kernel
theorem dX7_init_202 : decode cX7_init 202 = .ok (.bipush 20, 2) := by decide +kernel
theorem dX7_init_204 : decode cX7_init 204 = .ok (.newarray .int, 2) := by decide +kernel
theorem dX7_init_206 : decode cX7_init 206 = .ok (.putfield 89, 3) := by decide +kernel
theorem dX7_init_209 : decode cX7_init 209 = .ok (.aload_n 0, 1) := by decide +kernel
theorem dX7_init_210 : decode cX7_init 210 = .ok (.bipush 20, 2) := by decide +kernel
theorem dX7_init_212 : decode cX7_init 212 = .ok (.newarray .int, 2) := by decide +kernel
theorem dX7_init_214 : decode cX7_init 214 = .ok (.putfield 92, 3) := by decide +kernel
theorem dX7_init_217 : decode cX7_init 217 = .ok (.aload_n 0, 1) := by decide +kernel
theorem dX7_init_218 : decode cX7_init 218 = .ok (.sipush 200, 3) := by decide +kernel
theorem dX7_init_221 : decode cX7_init 221 = .ok (.newarray .int, 2) := by decide +kernel
theorem dX7_init_223 : decode cX7_init 223 = .ok (.putfield 95, 3) := by decide +kernel
theorem dX7_init_226 : decode cX7_init 226 = .ok (.aload_n 0, 1) := by decide +kernel
theorem dX7_init_227 : decode cX7_init 227 = .ok (.sipush 200, 3) := by decide +kernel
theorem dX7_init_230 : decode cX7_init 230 = .ok (.newarray .int, 2) := by decide +kernel
theorem dX7_init_232 : decode cX7_init 232 = .ok (.putfield 98, 3) := by decide +kernel
theorem dX7_init_235 : decode cX7_init 235 = .ok (.aload_n 0, 1) := by decide +kernel
theorem dX7_init_236 : decode cX7_init 236 = .ok (.sipush 200, 3) := by decide +kernel
theorem dX7_init_239 : decode cX7_init 239 = .ok (.newarray .boolean, 2) := by decide +kernel
theorem dX7_init_241 : decode cX7_init 241 = .ok (.putfield 101, 3) := by decide +kernel
theorem dX7_init_244 : decode cX7_init 244 = .ok (.return_, 1) := by decide +kernel
abbrev rm7_init : Room := { frames := 1, cells := 31, slots := 1014, locals := 20 }
theorem hd7_init : yX7_init.cls ≠ "java/lang/invoke/MethodHandle" ∧ yX7_init.cls ≠ "java/lang/invoke/VarHandle" ∧ (parseMethodDescriptor yX7_init.desc).map (fun d => d.parameters.length) = some 0 := by decide +kernel
set_option maxHeartbeats 4000000 in
set_option maxRecDepth 20000 in
theorem m7_init (l : Launch) (hl : l.stackTraces = false) (G : xG) (ρ : Nm → Nat) (this : Nm) (σ : PH) (Q : PH → Prop) (h : w7_init this σ Q) : xMet l yX7_init (.code yX7_init cX7_init 1 none) rm7_init G ρ σ [.ref (ρ this)] (eVA Q) xNo := by
  refine xMet.of hl (by decide +kernel) (Nat.le_of_ble_eq_true rfl) (fun X hC hr hn htab h0 => ?_)
  have hC : xC G X "PlantServerModel" cX7_init 1 rm7_init := hC
  unfold w7_init at h
  refine xJ.loc (L' := [(0, .ref (ρ this))]) rfl ?_
  refine x_aload_n hC 0 rfl dX7_init_0 ?_
  refine x_oinit hC q688 q23 q24 (by decide) (by first | exact Nat.le_of_ble_eq_true rfl | (simp [rv_cat]; done) | (simp (decide := true) [rv_cat, cat_ref, cat_int]; done)) dX7_init_1 ?_
  refine x_aload_n hC 0 rfl dX7_init_4 ?_
  refine x_bipush (v := 10) hC dX7_init_5 (by decide) ?_
  obtain ⟨n1, hz1, h⟩ := h
  obtain ⟨z1, h⟩ := h
  refine x_newa (kd := 9) (N := 10) (by decide) hC n1 hz1 .int rfl (by decide) (by decide) q49 (by decide) (by decide) dX7_init_7 (fun ρ1 hρ1 => ?_)
  rw [← hρ1 this z1]
  refine xJ.nmH (fun σ1 e1 => ?_)
  have h := h σ1 e1
  have k1 : hK σ1 n1 = 9 := by rw [e1]; exact sN_c
  obtain ⟨k2, h⟩ := h
  refine x_putRF (m0 := n1) (n0 := this) hC (ci := 7) (T := TX7) (N := 36) (C := RX7) 2 k2 rfl rfl (by decide) rfl q691 rfl rfl hn (tyX7_ok 2 (by decide)) rfl rfl (by rw [k1]; decide) dX7_init_9 ?_
  refine xJ.nmH (fun σ2 e2 => ?_)
  have h := h σ2 e2
  have r1 : hR σ2 = hR σ2 ∧ hL σ2 = hL σ1 := by rw [e2]; exact ⟨rfl, rfl⟩
  refine x_aload_n hC 0 rfl dX7_init_12 ?_
  refine x_iconst (v := 4) hC dX7_init_13 (by decide) ?_
  obtain ⟨n2, hz2, h⟩ := h
  have k3 : hK σ2 this = 8 := by rw [e2]; exact k2
  refine x_newa (kd := 10) (N := 4) (by decide) hC n2 hz2 .boolean rfl (by decide) (by decide) q338 (by decide) (by decide) dX7_init_14 (fun ρ2 hρ2 => ?_)
  rw [← hρ2 this (by rw [k3]; decide)]
  refine xJ.nmH (fun σ3 e3 => ?_)
  have h := h σ3 e3
  have k4 : hK σ3 n2 = 10 := by rw [e3]; exact sN_c
  have k5 : hK σ3 this = 8 := by rw [e3]; exact sN_k hz2 k3 (by decide)
  refine x_putRF (m0 := n2) (n0 := this) hC (ci := 7) (T := TX7) (N := 36) (C := RX7) 4 k5 rfl rfl (by decide) rfl q693 rfl rfl hn (tyX7_ok 4 (by decide)) rfl rfl (by rw [k4]; decide) dX7_init_16 ?_
  refine xJ.nmH (fun σ4 e4 => ?_)
  have h := h σ4 e4
  have r2 : hR σ4 = hR σ4 ∧ hL σ4 = hL σ3 := by rw [e4]; exact ⟨rfl, rfl⟩
  refine x_aload_n hC 0 rfl dX7_init_19 ?_
  refine x_iconst (v := 4) hC dX7_init_20 (by decide) ?_
  obtain ⟨n3, hz3, h⟩ := h
  have k6 : hK σ4 this = 8 := by rw [e4]; exact k5
  refine x_newa (kd := 9) (N := 4) (by decide) hC n3 hz3 .int rfl (by decide) (by decide) q49 (by decide) (by decide) dX7_init_21 (fun ρ3 hρ3 => ?_)
  rw [← hρ3 this (by rw [k6]; decide)]
  refine xJ.nmH (fun σ5 e5 => ?_)
  have h := h σ5 e5
  have k7 : hK σ5 n3 = 9 := by rw [e5]; exact sN_c
  have k8 : hK σ5 this = 8 := by rw [e5]; exact sN_k hz3 k6 (by decide)
  refine x_putRF (m0 := n3) (n0 := this) hC (ci := 7) (T := TX7) (N := 36) (C := RX7) 5 k8 rfl rfl (by decide) rfl q694 rfl rfl hn (tyX7_ok 5 (by decide)) rfl rfl (by rw [k7]; decide) dX7_init_23 ?_
  refine xJ.nmH (fun σ6 e6 => ?_)
  have h := h σ6 e6
  have r3 : hR σ6 = hR σ6 ∧ hL σ6 = hL σ5 := by rw [e6]; exact ⟨rfl, rfl⟩
  refine x_aload_n hC 0 rfl dX7_init_26 ?_
  refine x_iconst (v := 4) hC dX7_init_27 (by decide) ?_
  obtain ⟨n4, hz4, h⟩ := h
  have k9 : hK σ6 this = 8 := by rw [e6]; exact k8
  refine x_newa (kd := 9) (N := 4) (by decide) hC n4 hz4 .int rfl (by decide) (by decide) q49 (by decide) (by decide) dX7_init_28 (fun ρ4 hρ4 => ?_)
  rw [← hρ4 this (by rw [k9]; decide)]
  refine xJ.nmH (fun σ7 e7 => ?_)
  have h := h σ7 e7
  have k10 : hK σ7 n4 = 9 := by rw [e7]; exact sN_c
  have k11 : hK σ7 this = 8 := by rw [e7]; exact sN_k hz4 k9 (by decide)
  refine x_putRF (m0 := n4) (n0 := this) hC (ci := 7) (T := TX7) (N := 36) (C := RX7) 6 k11 rfl rfl (by decide) rfl q695 rfl rfl hn (tyX7_ok 6 (by decide)) rfl rfl (by rw [k10]; decide) dX7_init_30 ?_
  refine xJ.nmH (fun σ8 e8 => ?_)
  have h := h σ8 e8
  have r4 : hR σ8 = hR σ8 ∧ hL σ8 = hL σ7 := by rw [e8]; exact ⟨rfl, rfl⟩
  refine x_aload_n hC 0 rfl dX7_init_33 ?_
  refine x_iconst (v := 4) hC dX7_init_34 (by decide) ?_
  obtain ⟨n5, hz5, h⟩ := h
  have k12 : hK σ8 this = 8 := by rw [e8]; exact k11
  refine x_newa (kd := 9) (N := 4) (by decide) hC n5 hz5 .int rfl (by decide) (by decide) q49 (by decide) (by decide) dX7_init_35 (fun ρ5 hρ5 => ?_)
  rw [← hρ5 this (by rw [k12]; decide)]
  refine xJ.nmH (fun σ9 e9 => ?_)
  have h := h σ9 e9
  have k13 : hK σ9 n5 = 9 := by rw [e9]; exact sN_c
  have k14 : hK σ9 this = 8 := by rw [e9]; exact sN_k hz5 k12 (by decide)
  refine x_putRF (m0 := n5) (n0 := this) hC (ci := 7) (T := TX7) (N := 36) (C := RX7) 7 k14 rfl rfl (by decide) rfl q696 rfl rfl hn (tyX7_ok 7 (by decide)) rfl rfl (by rw [k13]; decide) dX7_init_37 ?_
  refine xJ.nmH (fun σ10 e10 => ?_)
  have h := h σ10 e10
  have r5 : hR σ10 = hR σ10 ∧ hL σ10 = hL σ9 := by rw [e10]; exact ⟨rfl, rfl⟩
  refine x_aload_n hC 0 rfl dX7_init_40 ?_
  refine x_iconst (v := 4) hC dX7_init_41 (by decide) ?_
  obtain ⟨n6, hz6, h⟩ := h
  have k15 : hK σ10 this = 8 := by rw [e10]; exact k14
  refine x_newa (kd := 9) (N := 4) (by decide) hC n6 hz6 .int rfl (by decide) (by decide) q49 (by decide) (by decide) dX7_init_42 (fun ρ6 hρ6 => ?_)
  rw [← hρ6 this (by rw [k15]; decide)]
  refine xJ.nmH (fun σ11 e11 => ?_)
  have h := h σ11 e11
  have k16 : hK σ11 n6 = 9 := by rw [e11]; exact sN_c
  have k17 : hK σ11 this = 8 := by rw [e11]; exact sN_k hz6 k15 (by decide)
  refine x_putRF (m0 := n6) (n0 := this) hC (ci := 7) (T := TX7) (N := 36) (C := RX7) 8 k17 rfl rfl (by decide) rfl q697 rfl rfl hn (tyX7_ok 8 (by decide)) rfl rfl (by rw [k16]; decide) dX7_init_44 ?_
  refine xJ.nmH (fun σ12 e12 => ?_)
  have h := h σ12 e12
  have r6 : hR σ12 = hR σ12 ∧ hL σ12 = hL σ11 := by rw [e12]; exact ⟨rfl, rfl⟩
  refine x_aload_n hC 0 rfl dX7_init_47 ?_
  refine x_iconst (v := 4) hC dX7_init_48 (by decide) ?_
  obtain ⟨n7, hz7, h⟩ := h
  have k18 : hK σ12 this = 8 := by rw [e12]; exact k17
  refine x_newa (kd := 9) (N := 4) (by decide) hC n7 hz7 .int rfl (by decide) (by decide) q49 (by decide) (by decide) dX7_init_49 (fun ρ7 hρ7 => ?_)
  rw [← hρ7 this (by rw [k18]; decide)]
  refine xJ.nmH (fun σ13 e13 => ?_)
  have h := h σ13 e13
  have k19 : hK σ13 n7 = 9 := by rw [e13]; exact sN_c
  have k20 : hK σ13 this = 8 := by rw [e13]; exact sN_k hz7 k18 (by decide)
  refine x_putRF (m0 := n7) (n0 := this) hC (ci := 7) (T := TX7) (N := 36) (C := RX7) 9 k20 rfl rfl (by decide) rfl q698 rfl rfl hn (tyX7_ok 9 (by decide)) rfl rfl (by rw [k19]; decide) dX7_init_51 ?_
  refine xJ.nmH (fun σ14 e14 => ?_)
  have h := h σ14 e14
  have r7 : hR σ14 = hR σ14 ∧ hL σ14 = hL σ13 := by rw [e14]; exact ⟨rfl, rfl⟩
  refine x_aload_n hC 0 rfl dX7_init_54 ?_
  refine x_iconst (v := 4) hC dX7_init_55 (by decide) ?_
  obtain ⟨n8, hz8, h⟩ := h
  have k21 : hK σ14 this = 8 := by rw [e14]; exact k20
  refine x_newa (kd := 9) (N := 4) (by decide) hC n8 hz8 .int rfl (by decide) (by decide) q49 (by decide) (by decide) dX7_init_56 (fun ρ8 hρ8 => ?_)
  rw [← hρ8 this (by rw [k21]; decide)]
  refine xJ.nmH (fun σ15 e15 => ?_)
  have h := h σ15 e15
  have k22 : hK σ15 n8 = 9 := by rw [e15]; exact sN_c
  have k23 : hK σ15 this = 8 := by rw [e15]; exact sN_k hz8 k21 (by decide)
  refine x_putRF (m0 := n8) (n0 := this) hC (ci := 7) (T := TX7) (N := 36) (C := RX7) 10 k23 rfl rfl (by decide) rfl q699 rfl rfl hn (tyX7_ok 10 (by decide)) rfl rfl (by rw [k22]; decide) dX7_init_58 ?_
  refine xJ.nmH (fun σ16 e16 => ?_)
  have h := h σ16 e16
  have r8 : hR σ16 = hR σ16 ∧ hL σ16 = hL σ15 := by rw [e16]; exact ⟨rfl, rfl⟩
  refine x_aload_n hC 0 rfl dX7_init_61 ?_
  refine x_iconst (v := 4) hC dX7_init_62 (by decide) ?_
  obtain ⟨n9, hz9, h⟩ := h
  have k24 : hK σ16 this = 8 := by rw [e16]; exact k23
  refine x_newa (kd := 9) (N := 4) (by decide) hC n9 hz9 .int rfl (by decide) (by decide) q49 (by decide) (by decide) dX7_init_63 (fun ρ9 hρ9 => ?_)
  rw [← hρ9 this (by rw [k24]; decide)]
  refine xJ.nmH (fun σ17 e17 => ?_)
  have h := h σ17 e17
  have k25 : hK σ17 n9 = 9 := by rw [e17]; exact sN_c
  have k26 : hK σ17 this = 8 := by rw [e17]; exact sN_k hz9 k24 (by decide)
  refine x_putRF (m0 := n9) (n0 := this) hC (ci := 7) (T := TX7) (N := 36) (C := RX7) 11 k26 rfl rfl (by decide) rfl q700 rfl rfl hn (tyX7_ok 11 (by decide)) rfl rfl (by rw [k25]; decide) dX7_init_65 ?_
  refine xJ.nmH (fun σ18 e18 => ?_)
  have h := h σ18 e18
  have r9 : hR σ18 = hR σ18 ∧ hL σ18 = hL σ17 := by rw [e18]; exact ⟨rfl, rfl⟩
  refine x_aload_n hC 0 rfl dX7_init_68 ?_
  refine x_iconst (v := 4) hC dX7_init_69 (by decide) ?_
  obtain ⟨n10, hz10, h⟩ := h
  have k27 : hK σ18 this = 8 := by rw [e18]; exact k26
  refine x_newa (kd := 9) (N := 4) (by decide) hC n10 hz10 .int rfl (by decide) (by decide) q49 (by decide) (by decide) dX7_init_70 (fun ρ10 hρ10 => ?_)
  rw [← hρ10 this (by rw [k27]; decide)]
  refine xJ.nmH (fun σ19 e19 => ?_)
  have h := h σ19 e19
  have k28 : hK σ19 n10 = 9 := by rw [e19]; exact sN_c
  have k29 : hK σ19 this = 8 := by rw [e19]; exact sN_k hz10 k27 (by decide)
  refine x_putRF (m0 := n10) (n0 := this) hC (ci := 7) (T := TX7) (N := 36) (C := RX7) 12 k29 rfl rfl (by decide) rfl q701 rfl rfl hn (tyX7_ok 12 (by decide)) rfl rfl (by rw [k28]; decide) dX7_init_72 ?_
  refine xJ.nmH (fun σ20 e20 => ?_)
  have h := h σ20 e20
  have r10 : hR σ20 = hR σ20 ∧ hL σ20 = hL σ19 := by rw [e20]; exact ⟨rfl, rfl⟩
  refine x_aload_n hC 0 rfl dX7_init_75 ?_
  refine x_iconst (v := 4) hC dX7_init_76 (by decide) ?_
  obtain ⟨n11, hz11, h⟩ := h
  have k30 : hK σ20 this = 8 := by rw [e20]; exact k29
  refine x_newa (kd := 9) (N := 4) (by decide) hC n11 hz11 .int rfl (by decide) (by decide) q49 (by decide) (by decide) dX7_init_77 (fun ρ11 hρ11 => ?_)
  rw [← hρ11 this (by rw [k30]; decide)]
  refine xJ.nmH (fun σ21 e21 => ?_)
  have h := h σ21 e21
  have k31 : hK σ21 n11 = 9 := by rw [e21]; exact sN_c
  have k32 : hK σ21 this = 8 := by rw [e21]; exact sN_k hz11 k30 (by decide)
  refine x_putRF (m0 := n11) (n0 := this) hC (ci := 7) (T := TX7) (N := 36) (C := RX7) 13 k32 rfl rfl (by decide) rfl q702 rfl rfl hn (tyX7_ok 13 (by decide)) rfl rfl (by rw [k31]; decide) dX7_init_79 ?_
  refine xJ.nmH (fun σ22 e22 => ?_)
  have h := h σ22 e22
  have r11 : hR σ22 = hR σ22 ∧ hL σ22 = hL σ21 := by rw [e22]; exact ⟨rfl, rfl⟩
  refine x_aload_n hC 0 rfl dX7_init_82 ?_
  refine x_iconst (v := 4) hC dX7_init_83 (by decide) ?_
  obtain ⟨n12, hz12, h⟩ := h
  have k33 : hK σ22 this = 8 := by rw [e22]; exact k32
  refine x_newa (kd := 9) (N := 4) (by decide) hC n12 hz12 .int rfl (by decide) (by decide) q49 (by decide) (by decide) dX7_init_84 (fun ρ12 hρ12 => ?_)
  rw [← hρ12 this (by rw [k33]; decide)]
  refine xJ.nmH (fun σ23 e23 => ?_)
  have h := h σ23 e23
  have k34 : hK σ23 n12 = 9 := by rw [e23]; exact sN_c
  have k35 : hK σ23 this = 8 := by rw [e23]; exact sN_k hz12 k33 (by decide)
  refine x_putRF (m0 := n12) (n0 := this) hC (ci := 7) (T := TX7) (N := 36) (C := RX7) 14 k35 rfl rfl (by decide) rfl q703 rfl rfl hn (tyX7_ok 14 (by decide)) rfl rfl (by rw [k34]; decide) dX7_init_86 ?_
  refine xJ.nmH (fun σ24 e24 => ?_)
  have h := h σ24 e24
  have r12 : hR σ24 = hR σ24 ∧ hL σ24 = hL σ23 := by rw [e24]; exact ⟨rfl, rfl⟩
  refine x_aload_n hC 0 rfl dX7_init_89 ?_
  refine x_bipush (v := 16) hC dX7_init_90 (by decide) ?_
  obtain ⟨n13, hz13, h⟩ := h
  have k36 : hK σ24 this = 8 := by rw [e24]; exact k35
  refine x_newa (kd := 9) (N := 16) (by decide) hC n13 hz13 .int rfl (by decide) (by decide) q49 (by decide) (by decide) dX7_init_92 (fun ρ13 hρ13 => ?_)
  rw [← hρ13 this (by rw [k36]; decide)]
  refine xJ.nmH (fun σ25 e25 => ?_)
  have h := h σ25 e25
  have k37 : hK σ25 n13 = 9 := by rw [e25]; exact sN_c
  have k38 : hK σ25 this = 8 := by rw [e25]; exact sN_k hz13 k36 (by decide)
  refine x_putRF (m0 := n13) (n0 := this) hC (ci := 7) (T := TX7) (N := 36) (C := RX7) 16 k38 rfl rfl (by decide) rfl q705 rfl rfl hn (tyX7_ok 16 (by decide)) rfl rfl (by rw [k37]; decide) dX7_init_94 ?_
  refine xJ.nmH (fun σ26 e26 => ?_)
  have h := h σ26 e26
  have r13 : hR σ26 = hR σ26 ∧ hL σ26 = hL σ25 := by rw [e26]; exact ⟨rfl, rfl⟩
  refine x_aload_n hC 0 rfl dX7_init_97 ?_
  refine x_bipush (v := 16) hC dX7_init_98 (by decide) ?_
  obtain ⟨n14, hz14, h⟩ := h
  have k39 : hK σ26 this = 8 := by rw [e26]; exact k38
  refine x_newa (kd := 9) (N := 16) (by decide) hC n14 hz14 .int rfl (by decide) (by decide) q49 (by decide) (by decide) dX7_init_100 (fun ρ14 hρ14 => ?_)
  rw [← hρ14 this (by rw [k39]; decide)]
  refine xJ.nmH (fun σ27 e27 => ?_)
  have h := h σ27 e27
  have k40 : hK σ27 n14 = 9 := by rw [e27]; exact sN_c
  have k41 : hK σ27 this = 8 := by rw [e27]; exact sN_k hz14 k39 (by decide)
  refine x_putRF (m0 := n14) (n0 := this) hC (ci := 7) (T := TX7) (N := 36) (C := RX7) 17 k41 rfl rfl (by decide) rfl q706 rfl rfl hn (tyX7_ok 17 (by decide)) rfl rfl (by rw [k40]; decide) dX7_init_102 ?_
  refine xJ.nmH (fun σ28 e28 => ?_)
  have h := h σ28 e28
  have r14 : hR σ28 = hR σ28 ∧ hL σ28 = hL σ27 := by rw [e28]; exact ⟨rfl, rfl⟩
  refine x_aload_n hC 0 rfl dX7_init_105 ?_
  refine x_bipush (v := 16) hC dX7_init_106 (by decide) ?_
  obtain ⟨n15, hz15, h⟩ := h
  have k42 : hK σ28 this = 8 := by rw [e28]; exact k41
  refine x_newa (kd := 9) (N := 16) (by decide) hC n15 hz15 .int rfl (by decide) (by decide) q49 (by decide) (by decide) dX7_init_108 (fun ρ15 hρ15 => ?_)
  rw [← hρ15 this (by rw [k42]; decide)]
  refine xJ.nmH (fun σ29 e29 => ?_)
  have h := h σ29 e29
  have k43 : hK σ29 n15 = 9 := by rw [e29]; exact sN_c
  have k44 : hK σ29 this = 8 := by rw [e29]; exact sN_k hz15 k42 (by decide)
  refine x_putRF (m0 := n15) (n0 := this) hC (ci := 7) (T := TX7) (N := 36) (C := RX7) 18 k44 rfl rfl (by decide) rfl q707 rfl rfl hn (tyX7_ok 18 (by decide)) rfl rfl (by rw [k43]; decide) dX7_init_110 ?_
  refine xJ.nmH (fun σ30 e30 => ?_)
  have h := h σ30 e30
  have r15 : hR σ30 = hR σ30 ∧ hL σ30 = hL σ29 := by rw [e30]; exact ⟨rfl, rfl⟩
  refine x_aload_n hC 0 rfl dX7_init_113 ?_
  refine x_bipush (v := 16) hC dX7_init_114 (by decide) ?_
  obtain ⟨n16, hz16, h⟩ := h
  have k45 : hK σ30 this = 8 := by rw [e30]; exact k44
  refine x_newa (kd := 9) (N := 16) (by decide) hC n16 hz16 .int rfl (by decide) (by decide) q49 (by decide) (by decide) dX7_init_116 (fun ρ16 hρ16 => ?_)
  rw [← hρ16 this (by rw [k45]; decide)]
  refine xJ.nmH (fun σ31 e31 => ?_)
  have h := h σ31 e31
  have k46 : hK σ31 n16 = 9 := by rw [e31]; exact sN_c
  have k47 : hK σ31 this = 8 := by rw [e31]; exact sN_k hz16 k45 (by decide)
  refine x_putRF (m0 := n16) (n0 := this) hC (ci := 7) (T := TX7) (N := 36) (C := RX7) 19 k47 rfl rfl (by decide) rfl q708 rfl rfl hn (tyX7_ok 19 (by decide)) rfl rfl (by rw [k46]; decide) dX7_init_118 ?_
  refine xJ.nmH (fun σ32 e32 => ?_)
  have h := h σ32 e32
  have r16 : hR σ32 = hR σ32 ∧ hL σ32 = hL σ31 := by rw [e32]; exact ⟨rfl, rfl⟩
  refine x_aload_n hC 0 rfl dX7_init_121 ?_
  refine x_bipush (v := 16) hC dX7_init_122 (by decide) ?_
  obtain ⟨n17, hz17, h⟩ := h
  have k48 : hK σ32 this = 8 := by rw [e32]; exact k47
  refine x_newa (kd := 9) (N := 16) (by decide) hC n17 hz17 .int rfl (by decide) (by decide) q49 (by decide) (by decide) dX7_init_124 (fun ρ17 hρ17 => ?_)
  rw [← hρ17 this (by rw [k48]; decide)]
  refine xJ.nmH (fun σ33 e33 => ?_)
  have h := h σ33 e33
  have k49 : hK σ33 n17 = 9 := by rw [e33]; exact sN_c
  have k50 : hK σ33 this = 8 := by rw [e33]; exact sN_k hz17 k48 (by decide)
  refine x_putRF (m0 := n17) (n0 := this) hC (ci := 7) (T := TX7) (N := 36) (C := RX7) 20 k50 rfl rfl (by decide) rfl q709 rfl rfl hn (tyX7_ok 20 (by decide)) rfl rfl (by rw [k49]; decide) dX7_init_126 ?_
  refine xJ.nmH (fun σ34 e34 => ?_)
  have h := h σ34 e34
  have r17 : hR σ34 = hR σ34 ∧ hL σ34 = hL σ33 := by rw [e34]; exact ⟨rfl, rfl⟩
  refine x_aload_n hC 0 rfl dX7_init_129 ?_
  refine x_bipush (v := 16) hC dX7_init_130 (by decide) ?_
  obtain ⟨n18, hz18, h⟩ := h
  have k51 : hK σ34 this = 8 := by rw [e34]; exact k50
  refine x_newa (kd := 10) (N := 16) (by decide) hC n18 hz18 .boolean rfl (by decide) (by decide) q338 (by decide) (by decide) dX7_init_132 (fun ρ18 hρ18 => ?_)
  rw [← hρ18 this (by rw [k51]; decide)]
  refine xJ.nmH (fun σ35 e35 => ?_)
  have h := h σ35 e35
  have k52 : hK σ35 n18 = 10 := by rw [e35]; exact sN_c
  have k53 : hK σ35 this = 8 := by rw [e35]; exact sN_k hz18 k51 (by decide)
  refine x_putRF (m0 := n18) (n0 := this) hC (ci := 7) (T := TX7) (N := 36) (C := RX7) 21 k53 rfl rfl (by decide) rfl q710 rfl rfl hn (tyX7_ok 21 (by decide)) rfl rfl (by rw [k52]; decide) dX7_init_134 ?_
  refine xJ.nmH (fun σ36 e36 => ?_)
  have h := h σ36 e36
  have r18 : hR σ36 = hR σ36 ∧ hL σ36 = hL σ35 := by rw [e36]; exact ⟨rfl, rfl⟩
  refine x_aload_n hC 0 rfl dX7_init_137 ?_
  refine x_bipush (v := 16) hC dX7_init_138 (by decide) ?_
  obtain ⟨n19, hz19, h⟩ := h
  have k54 : hK σ36 this = 8 := by rw [e36]; exact k53
  refine x_newa (kd := 9) (N := 16) (by decide) hC n19 hz19 .int rfl (by decide) (by decide) q49 (by decide) (by decide) dX7_init_140 (fun ρ19 hρ19 => ?_)
  rw [← hρ19 this (by rw [k54]; decide)]
  refine xJ.nmH (fun σ37 e37 => ?_)
  have h := h σ37 e37
  have k55 : hK σ37 n19 = 9 := by rw [e37]; exact sN_c
  have k56 : hK σ37 this = 8 := by rw [e37]; exact sN_k hz19 k54 (by decide)
  refine x_putRF (m0 := n19) (n0 := this) hC (ci := 7) (T := TX7) (N := 36) (C := RX7) 22 k56 rfl rfl (by decide) rfl q711 rfl rfl hn (tyX7_ok 22 (by decide)) rfl rfl (by rw [k55]; decide) dX7_init_142 ?_
  refine xJ.nmH (fun σ38 e38 => ?_)
  have h := h σ38 e38
  have r19 : hR σ38 = hR σ38 ∧ hL σ38 = hL σ37 := by rw [e38]; exact ⟨rfl, rfl⟩
  refine x_aload_n hC 0 rfl dX7_init_145 ?_
  refine x_bipush (v := 16) hC dX7_init_146 (by decide) ?_
  obtain ⟨n20, hz20, h⟩ := h
  have k57 : hK σ38 this = 8 := by rw [e38]; exact k56
  refine x_newa (kd := 10) (N := 16) (by decide) hC n20 hz20 .boolean rfl (by decide) (by decide) q338 (by decide) (by decide) dX7_init_148 (fun ρ20 hρ20 => ?_)
  rw [← hρ20 this (by rw [k57]; decide)]
  refine xJ.nmH (fun σ39 e39 => ?_)
  have h := h σ39 e39
  have k58 : hK σ39 n20 = 10 := by rw [e39]; exact sN_c
  have k59 : hK σ39 this = 8 := by rw [e39]; exact sN_k hz20 k57 (by decide)
  refine x_putRF (m0 := n20) (n0 := this) hC (ci := 7) (T := TX7) (N := 36) (C := RX7) 23 k59 rfl rfl (by decide) rfl q712 rfl rfl hn (tyX7_ok 23 (by decide)) rfl rfl (by rw [k58]; decide) dX7_init_150 ?_
  refine xJ.nmH (fun σ40 e40 => ?_)
  have h := h σ40 e40
  have r20 : hR σ40 = hR σ40 ∧ hL σ40 = hL σ39 := by rw [e40]; exact ⟨rfl, rfl⟩
  refine x_aload_n hC 0 rfl dX7_init_153 ?_
  refine x_bipush (v := 16) hC dX7_init_154 (by decide) ?_
  obtain ⟨n21, hz21, h⟩ := h
  have k60 : hK σ40 this = 8 := by rw [e40]; exact k59
  refine x_newa (kd := 9) (N := 16) (by decide) hC n21 hz21 .int rfl (by decide) (by decide) q49 (by decide) (by decide) dX7_init_156 (fun ρ21 hρ21 => ?_)
  rw [← hρ21 this (by rw [k60]; decide)]
  refine xJ.nmH (fun σ41 e41 => ?_)
  have h := h σ41 e41
  have k61 : hK σ41 n21 = 9 := by rw [e41]; exact sN_c
  have k62 : hK σ41 this = 8 := by rw [e41]; exact sN_k hz21 k60 (by decide)
  refine x_putRF (m0 := n21) (n0 := this) hC (ci := 7) (T := TX7) (N := 36) (C := RX7) 24 k62 rfl rfl (by decide) rfl q713 rfl rfl hn (tyX7_ok 24 (by decide)) rfl rfl (by rw [k61]; decide) dX7_init_158 ?_
  refine xJ.nmH (fun σ42 e42 => ?_)
  have h := h σ42 e42
  have r21 : hR σ42 = hR σ42 ∧ hL σ42 = hL σ41 := by rw [e42]; exact ⟨rfl, rfl⟩
  refine x_aload_n hC 0 rfl dX7_init_161 ?_
  refine x_bipush (v := 16) hC dX7_init_162 (by decide) ?_
  obtain ⟨n22, hz22, h⟩ := h
  have k63 : hK σ42 this = 8 := by rw [e42]; exact k62
  refine x_newa (kd := 9) (N := 16) (by decide) hC n22 hz22 .int rfl (by decide) (by decide) q49 (by decide) (by decide) dX7_init_164 (fun ρ22 hρ22 => ?_)
  rw [← hρ22 this (by rw [k63]; decide)]
  refine xJ.nmH (fun σ43 e43 => ?_)
  have h := h σ43 e43
  have k64 : hK σ43 n22 = 9 := by rw [e43]; exact sN_c
  have k65 : hK σ43 this = 8 := by rw [e43]; exact sN_k hz22 k63 (by decide)
  refine x_putRF (m0 := n22) (n0 := this) hC (ci := 7) (T := TX7) (N := 36) (C := RX7) 25 k65 rfl rfl (by decide) rfl q714 rfl rfl hn (tyX7_ok 25 (by decide)) rfl rfl (by rw [k64]; decide) dX7_init_166 ?_
  refine xJ.nmH (fun σ44 e44 => ?_)
  have h := h σ44 e44
  have r22 : hR σ44 = hR σ44 ∧ hL σ44 = hL σ43 := by rw [e44]; exact ⟨rfl, rfl⟩
  refine x_aload_n hC 0 rfl dX7_init_169 ?_
  refine x_bipush (v := 16) hC dX7_init_170 (by decide) ?_
  obtain ⟨n23, hz23, h⟩ := h
  have k66 : hK σ44 this = 8 := by rw [e44]; exact k65
  refine x_newa (kd := 9) (N := 16) (by decide) hC n23 hz23 .int rfl (by decide) (by decide) q49 (by decide) (by decide) dX7_init_172 (fun ρ23 hρ23 => ?_)
  rw [← hρ23 this (by rw [k66]; decide)]
  refine xJ.nmH (fun σ45 e45 => ?_)
  have h := h σ45 e45
  have k67 : hK σ45 n23 = 9 := by rw [e45]; exact sN_c
  have k68 : hK σ45 this = 8 := by rw [e45]; exact sN_k hz23 k66 (by decide)
  refine x_putRF (m0 := n23) (n0 := this) hC (ci := 7) (T := TX7) (N := 36) (C := RX7) 26 k68 rfl rfl (by decide) rfl q715 rfl rfl hn (tyX7_ok 26 (by decide)) rfl rfl (by rw [k67]; decide) dX7_init_174 ?_
  refine xJ.nmH (fun σ46 e46 => ?_)
  have h := h σ46 e46
  have r23 : hR σ46 = hR σ46 ∧ hL σ46 = hL σ45 := by rw [e46]; exact ⟨rfl, rfl⟩
  refine x_aload_n hC 0 rfl dX7_init_177 ?_
  refine x_bipush (v := 16) hC dX7_init_178 (by decide) ?_
  obtain ⟨n24, hz24, h⟩ := h
  have k69 : hK σ46 this = 8 := by rw [e46]; exact k68
  refine x_newa (kd := 9) (N := 16) (by decide) hC n24 hz24 .int rfl (by decide) (by decide) q49 (by decide) (by decide) dX7_init_180 (fun ρ24 hρ24 => ?_)
  rw [← hρ24 this (by rw [k69]; decide)]
  refine xJ.nmH (fun σ47 e47 => ?_)
  have h := h σ47 e47
  have k70 : hK σ47 n24 = 9 := by rw [e47]; exact sN_c
  have k71 : hK σ47 this = 8 := by rw [e47]; exact sN_k hz24 k69 (by decide)
  refine x_putRF (m0 := n24) (n0 := this) hC (ci := 7) (T := TX7) (N := 36) (C := RX7) 27 k71 rfl rfl (by decide) rfl q716 rfl rfl hn (tyX7_ok 27 (by decide)) rfl rfl (by rw [k70]; decide) dX7_init_182 ?_
  refine xJ.nmH (fun σ48 e48 => ?_)
  have h := h σ48 e48
  have r24 : hR σ48 = hR σ48 ∧ hL σ48 = hL σ47 := by rw [e48]; exact ⟨rfl, rfl⟩
  refine x_aload_n hC 0 rfl dX7_init_185 ?_
  refine x_bipush (v := 64) hC dX7_init_186 (by decide) ?_
  obtain ⟨n25, hz25, h⟩ := h
  have k72 : hK σ48 this = 8 := by rw [e48]; exact k71
  refine x_newa (kd := 9) (N := 64) (by decide) hC n25 hz25 .int rfl (by decide) (by decide) q49 (by decide) (by decide) dX7_init_188 (fun ρ25 hρ25 => ?_)
  rw [← hρ25 this (by rw [k72]; decide)]
  refine xJ.nmH (fun σ49 e49 => ?_)
  have h := h σ49 e49
  have k73 : hK σ49 n25 = 9 := by rw [e49]; exact sN_c
  have k74 : hK σ49 this = 8 := by rw [e49]; exact sN_k hz25 k72 (by decide)
  refine x_putRF (m0 := n25) (n0 := this) hC (ci := 7) (T := TX7) (N := 36) (C := RX7) 28 k74 rfl rfl (by decide) rfl q717 rfl rfl hn (tyX7_ok 28 (by decide)) rfl rfl (by rw [k73]; decide) dX7_init_190 ?_
  refine xJ.nmH (fun σ50 e50 => ?_)
  have h := h σ50 e50
  have r25 : hR σ50 = hR σ50 ∧ hL σ50 = hL σ49 := by rw [e50]; exact ⟨rfl, rfl⟩
  refine x_aload_n hC 0 rfl dX7_init_193 ?_
  refine x_bipush (v := 64) hC dX7_init_194 (by decide) ?_
  obtain ⟨n26, hz26, h⟩ := h
  have k75 : hK σ50 this = 8 := by rw [e50]; exact k74
  refine x_newa (kd := 10) (N := 64) (by decide) hC n26 hz26 .boolean rfl (by decide) (by decide) q338 (by decide) (by decide) dX7_init_196 (fun ρ26 hρ26 => ?_)
  rw [← hρ26 this (by rw [k75]; decide)]
  refine xJ.nmH (fun σ51 e51 => ?_)
  have h := h σ51 e51
  have k76 : hK σ51 n26 = 10 := by rw [e51]; exact sN_c
  have k77 : hK σ51 this = 8 := by rw [e51]; exact sN_k hz26 k75 (by decide)
  refine x_putRF (m0 := n26) (n0 := this) hC (ci := 7) (T := TX7) (N := 36) (C := RX7) 29 k77 rfl rfl (by decide) rfl q718 rfl rfl hn (tyX7_ok 29 (by decide)) rfl rfl (by rw [k76]; decide) dX7_init_198 ?_
  refine xJ.nmH (fun σ52 e52 => ?_)
  have h := h σ52 e52
  have r26 : hR σ52 = hR σ52 ∧ hL σ52 = hL σ51 := by rw [e52]; exact ⟨rfl, rfl⟩
  refine x_aload_n hC 0 rfl dX7_init_201 ?_
  refine x_bipush (v := 20) hC dX7_init_202 (by decide) ?_
  obtain ⟨n27, hz27, h⟩ := h
  have k78 : hK σ52 this = 8 := by rw [e52]; exact k77
  refine x_newa (kd := 9) (N := 20) (by decide) hC n27 hz27 .int rfl (by decide) (by decide) q49 (by decide) (by decide) dX7_init_204 (fun ρ27 hρ27 => ?_)
  rw [← hρ27 this (by rw [k78]; decide)]
  refine xJ.nmH (fun σ53 e53 => ?_)
  have h := h σ53 e53
  have k79 : hK σ53 n27 = 9 := by rw [e53]; exact sN_c
  have k80 : hK σ53 this = 8 := by rw [e53]; exact sN_k hz27 k78 (by decide)
  refine x_putRF (m0 := n27) (n0 := this) hC (ci := 7) (T := TX7) (N := 36) (C := RX7) 30 k80 rfl rfl (by decide) rfl q719 rfl rfl hn (tyX7_ok 30 (by decide)) rfl rfl (by rw [k79]; decide) dX7_init_206 ?_
  refine xJ.nmH (fun σ54 e54 => ?_)
  have h := h σ54 e54
  have r27 : hR σ54 = hR σ54 ∧ hL σ54 = hL σ53 := by rw [e54]; exact ⟨rfl, rfl⟩
  refine x_aload_n hC 0 rfl dX7_init_209 ?_
  refine x_bipush (v := 20) hC dX7_init_210 (by decide) ?_
  obtain ⟨n28, hz28, h⟩ := h
  have k81 : hK σ54 this = 8 := by rw [e54]; exact k80
  refine x_newa (kd := 9) (N := 20) (by decide) hC n28 hz28 .int rfl (by decide) (by decide) q49 (by decide) (by decide) dX7_init_212 (fun ρ28 hρ28 => ?_)
  rw [← hρ28 this (by rw [k81]; decide)]
  refine xJ.nmH (fun σ55 e55 => ?_)
  have h := h σ55 e55
  have k82 : hK σ55 n28 = 9 := by rw [e55]; exact sN_c
  have k83 : hK σ55 this = 8 := by rw [e55]; exact sN_k hz28 k81 (by decide)
  refine x_putRF (m0 := n28) (n0 := this) hC (ci := 7) (T := TX7) (N := 36) (C := RX7) 31 k83 rfl rfl (by decide) rfl q720 rfl rfl hn (tyX7_ok 31 (by decide)) rfl rfl (by rw [k82]; decide) dX7_init_214 ?_
  refine xJ.nmH (fun σ56 e56 => ?_)
  have h := h σ56 e56
  have r28 : hR σ56 = hR σ56 ∧ hL σ56 = hL σ55 := by rw [e56]; exact ⟨rfl, rfl⟩
  refine x_aload_n hC 0 rfl dX7_init_217 ?_
  refine x_sipush (v := 200) hC dX7_init_218 (by decide) ?_
  obtain ⟨n29, hz29, h⟩ := h
  have k84 : hK σ56 this = 8 := by rw [e56]; exact k83
  refine x_newa (kd := 9) (N := 200) (by decide) hC n29 hz29 .int rfl (by decide) (by decide) q49 (by decide) (by decide) dX7_init_221 (fun ρ29 hρ29 => ?_)
  rw [← hρ29 this (by rw [k84]; decide)]
  refine xJ.nmH (fun σ57 e57 => ?_)
  have h := h σ57 e57
  have k85 : hK σ57 n29 = 9 := by rw [e57]; exact sN_c
  have k86 : hK σ57 this = 8 := by rw [e57]; exact sN_k hz29 k84 (by decide)
  refine x_putRF (m0 := n29) (n0 := this) hC (ci := 7) (T := TX7) (N := 36) (C := RX7) 32 k86 rfl rfl (by decide) rfl q721 rfl rfl hn (tyX7_ok 32 (by decide)) rfl rfl (by rw [k85]; decide) dX7_init_223 ?_
  refine xJ.nmH (fun σ58 e58 => ?_)
  have h := h σ58 e58
  have r29 : hR σ58 = hR σ58 ∧ hL σ58 = hL σ57 := by rw [e58]; exact ⟨rfl, rfl⟩
  refine x_aload_n hC 0 rfl dX7_init_226 ?_
  refine x_sipush (v := 200) hC dX7_init_227 (by decide) ?_
  obtain ⟨n30, hz30, h⟩ := h
  have k87 : hK σ58 this = 8 := by rw [e58]; exact k86
  refine x_newa (kd := 9) (N := 200) (by decide) hC n30 hz30 .int rfl (by decide) (by decide) q49 (by decide) (by decide) dX7_init_230 (fun ρ30 hρ30 => ?_)
  rw [← hρ30 this (by rw [k87]; decide)]
  refine xJ.nmH (fun σ59 e59 => ?_)
  have h := h σ59 e59
  have k88 : hK σ59 n30 = 9 := by rw [e59]; exact sN_c
  have k89 : hK σ59 this = 8 := by rw [e59]; exact sN_k hz30 k87 (by decide)
  refine x_putRF (m0 := n30) (n0 := this) hC (ci := 7) (T := TX7) (N := 36) (C := RX7) 33 k89 rfl rfl (by decide) rfl q722 rfl rfl hn (tyX7_ok 33 (by decide)) rfl rfl (by rw [k88]; decide) dX7_init_232 ?_
  refine xJ.nmH (fun σ60 e60 => ?_)
  have h := h σ60 e60
  have r30 : hR σ60 = hR σ60 ∧ hL σ60 = hL σ59 := by rw [e60]; exact ⟨rfl, rfl⟩
  refine x_aload_n hC 0 rfl dX7_init_235 ?_
  refine x_sipush (v := 200) hC dX7_init_236 (by decide) ?_
  obtain ⟨n31, hz31, h⟩ := h
  have k90 : hK σ60 this = 8 := by rw [e60]; exact k89
  refine x_newa (kd := 10) (N := 200) (by decide) hC n31 hz31 .boolean rfl (by decide) (by decide) q338 (by decide) (by decide) dX7_init_239 (fun ρ31 hρ31 => ?_)
  refine xJ.sub (L' := []) [] rfl ?_
  rw [← hρ31 this (by rw [k90]; decide)]
  refine xJ.nmH (fun σ61 e61 => ?_)
  have h := h σ61 e61
  have k91 : hK σ61 n31 = 10 := by rw [e61]; exact sN_c
  have k92 : hK σ61 this = 8 := by rw [e61]; exact sN_k hz31 k90 (by decide)
  refine x_putRF (m0 := n31) (n0 := this) hC (ci := 7) (T := TX7) (N := 36) (C := RX7) 34 k92 rfl rfl (by decide) rfl q723 rfl rfl hn (tyX7_ok 34 (by decide)) rfl rfl (by rw [k91]; decide) dX7_init_241 ?_
  refine xJ.nmH (fun σ62 e62 => ?_)
  have h := h σ62 e62
  have r31 : hR σ62 = hR σ62 ∧ hL σ62 = hL σ61 := by rw [e62]; exact ⟨rfl, rfl⟩
  exact x_vret hC hr dX7_init_244 (by decide) (by decide) ⟨rfl, h⟩
/-! PlantServer.checkNode -/
theorem dX6_checkNode_0 : decode cX6_checkNode 0 = .ok (.iload_n 0, 1) := by decide +kernel
theorem dX6_checkNode_1 : decode cX6_checkNode 1 = .ok (.ifCond .lt 9, 3) := by decide +kernel
theorem dX6_checkNode_4 : decode cX6_checkNode 4 = .ok (.iload_n 0, 1) := by decide +kernel
theorem dX6_checkNode_5 : decode cX6_checkNode 5 = .ok (.bipush 10, 2) := by decide +kernel
theorem dX6_checkNode_7 : decode cX6_checkNode 7 = .ok (.if_icmp .lt 13, 3) := by decide +kernel
theorem dX6_checkNode_10 : decode cX6_checkNode 10 = .ok (.new 185, 3) := by decide +kernel
theorem dX6_checkNode_13 : decode cX6_checkNode 13 = .ok (.dup, 1) := by decide +kernel
theorem dX6_checkNode_14 : decode cX6_checkNode 14 = .ok (.ldc 187, 2) := by decide +kernel
theorem dX6_checkNode_16 : decode cX6_checkNode 16 = .ok (.invokespecial 189, 3) := by decide +kernel
theorem dX6_checkNode_19 : decode cX6_checkNode 19 = .ok (.athrow, 1) := by decide +kernel
theorem dX6_checkNode_20 : decode cX6_checkNode 20 = .ok (.return_, 1) := by decide +kernel
abbrev rm6_checkNode : Room := { frames := 6, cells := 1, slots := 6, locals := 90 }
theorem hd6_checkNode : yX6_checkNode.cls ≠ "java/lang/invoke/MethodHandle" ∧ yX6_checkNode.cls ≠ "java/lang/invoke/VarHandle" ∧ (parseMethodDescriptor yX6_checkNode.desc).map (fun d => d.parameters.length) = some 1 := by decide +kernel
set_option maxHeartbeats 4000000 in
set_option maxRecDepth 20000 in
theorem m6_checkNode (l : Launch) (hl : l.stackTraces = false) (G : xG) (ρ : Nm → Nat) (p1 : Int32) (σ : PH) (Q : PH → Prop) (Xp : String → PH → Prop) (h : w6_checkNode p1 σ Q Xp) : xMet l yX6_checkNode (.code yX6_checkNode cX6_checkNode 1 none) rm6_checkNode G ρ σ [.int p1] (eV ρ Q) Xp := by
  refine xMet.of hl (by decide +kernel) (Nat.le_of_ble_eq_true rfl) (fun X hC hr hn htab h0 => ?_)
  have hC : xC G X "PlantServer" cX6_checkNode 1 rm6_checkNode := hC
  unfold w6_checkNode at h
  refine xJ.loc (L' := [(0, .int p1)]) rfl ?_
  refine x_iload_n hC 0 rfl dX6_checkNode_0 ?_
  refine x_if_lt (tgt := 10) hC dX6_checkNode_1 (by decide) (fun c1 => ?_) (fun c1 => ?_)
  · have h := h.1 c1
    exact x_throw (E := xIO) (text := "there is no such node") (is := 187) hC h0 htab (by decide +kernel) (by decide +kernel) q98 q7 xhat_xIO xgood_xIO dX6_checkNode_10 dX6_checkNode_13 dX6_checkNode_14 dX6_checkNode_16 dX6_checkNode_19 (by decide) (by first | exact Nat.le_of_ble_eq_true rfl | (simp [rv_cat]; done) | (simp (decide := true) [rv_cat, cat_ref, cat_int]; done)) (by decide) (by decide) h
  · have h := h.2 c1
    refine x_iload_n hC 0 rfl dX6_checkNode_4 ?_
    refine x_bipush (v := 10) hC dX6_checkNode_5 (by decide) ?_
    refine x_icmp_lt (tgt := 20) hC dX6_checkNode_7 (by decide) (fun c2 => ?_) (fun c2 => ?_)
    · have h := h.1 c2
      exact x_vret hC hr dX6_checkNode_20 (by decide) (by decide) ⟨rfl, rfl, h⟩
    · have h := h.2 c2
      exact x_throw (E := xIO) (text := "there is no such node") (is := 187) hC h0 htab (by decide +kernel) (by decide +kernel) q98 q7 xhat_xIO xgood_xIO dX6_checkNode_10 dX6_checkNode_13 dX6_checkNode_14 dX6_checkNode_16 dX6_checkNode_19 (by decide) (by first | exact Nat.le_of_ble_eq_true rfl | (simp [rv_cat]; done) | (simp (decide := true) [rv_cat, cat_ref, cat_int]; done)) (by decide) (by decide) h
/-! PlantServer.checkRange -/
theorem dX6_checkRange_0 : decode cX6_checkRange 0 = .ok (.iload_n 0, 1) := by decide +kernel
theorem dX6_checkRange_1 : decode cX6_checkRange 1 = .ok (.iload_n 1, 1) := by decide +kernel
theorem dX6_checkRange_2 : decode cX6_checkRange 2 = .ok (.if_icmp .lt 8, 3) := by decide +kernel
theorem dX6_checkRange_5 : decode cX6_checkRange 5 = .ok (.iload_n 0, 1) := by decide +kernel
theorem dX6_checkRange_6 : decode cX6_checkRange 6 = .ok (.iload_n 2, 1) := by decide +kernel
theorem dX6_checkRange_7 : decode cX6_checkRange 7 = .ok (.if_icmp .le 13, 3) := by decide +kernel
theorem dX6_checkRange_10 : decode cX6_checkRange 10 = .ok (.new 109, 3) := by decide +kernel
theorem dX6_checkRange_13 : decode cX6_checkRange 13 = .ok (.dup, 1) := by decide +kernel
theorem dX6_checkRange_14 : decode cX6_checkRange 14 = .ok (.ldc 183, 2) := by decide +kernel
theorem dX6_checkRange_16 : decode cX6_checkRange 16 = .ok (.invokespecial 113, 3) := by decide +kernel
theorem dX6_checkRange_19 : decode cX6_checkRange 19 = .ok (.athrow, 1) := by decide +kernel
theorem dX6_checkRange_20 : decode cX6_checkRange 20 = .ok (.return_, 1) := by decide +kernel
abbrev rm6_checkRange : Room := { frames := 6, cells := 1, slots := 6, locals := 90 }
theorem hd6_checkRange : yX6_checkRange.cls ≠ "java/lang/invoke/MethodHandle" ∧ yX6_checkRange.cls ≠ "java/lang/invoke/VarHandle" ∧ (parseMethodDescriptor yX6_checkRange.desc).map (fun d => d.parameters.length) = some 3 := by decide +kernel
set_option maxHeartbeats 4000000 in
set_option maxRecDepth 20000 in
theorem m6_checkRange (l : Launch) (hl : l.stackTraces = false) (G : xG) (ρ : Nm → Nat) (p1 : Int32) (p2 : Int32) (p3 : Int32) (σ : PH) (Q : PH → Prop) (Xp : String → PH → Prop) (h : w6_checkRange p1 p2 p3 σ Q Xp) : xMet l yX6_checkRange (.code yX6_checkRange cX6_checkRange 3 none) rm6_checkRange G ρ σ [.int p1, .int p2, .int p3] (eV ρ Q) Xp := by
  refine xMet.of hl (by decide +kernel) (Nat.le_of_ble_eq_true rfl) (fun X hC hr hn htab h0 => ?_)
  have hC : xC G X "PlantServer" cX6_checkRange 3 rm6_checkRange := hC
  unfold w6_checkRange at h
  refine xJ.loc (L' := [(0, .int p1), (1, .int p2), (2, .int p3)]) rfl ?_
  refine x_iload_n hC 0 rfl dX6_checkRange_0 ?_
  refine x_iload_n hC 1 rfl dX6_checkRange_1 ?_
  refine x_icmp_lt (tgt := 10) hC dX6_checkRange_2 (by decide) (fun c1 => ?_) (fun c1 => ?_)
  · have h := h.1 c1
    exact x_throw (E := xIA) (text := "an argument is out of its range") (is := 183) hC h0 htab (by decide +kernel) (by decide +kernel) q170 q8 xhat_xIA xgood_xIA dX6_checkRange_10 dX6_checkRange_13 dX6_checkRange_14 dX6_checkRange_16 dX6_checkRange_19 (by decide) (by first | exact Nat.le_of_ble_eq_true rfl | (simp [rv_cat]; done) | (simp (decide := true) [rv_cat, cat_ref, cat_int]; done)) (by decide) (by decide) h
  · have h := h.2 c1
    refine x_iload_n hC 0 rfl dX6_checkRange_5 ?_
    refine x_iload_n hC 2 rfl dX6_checkRange_6 ?_
    refine x_icmp_le (tgt := 20) hC dX6_checkRange_7 (by decide) (fun c2 => ?_) (fun c2 => ?_)
    · have h := h.1 c2
      exact x_vret hC hr dX6_checkRange_20 (by decide) (by decide) ⟨rfl, rfl, h⟩
    · have h := h.2 c2
      exact x_throw (E := xIA) (text := "an argument is out of its range") (is := 183) hC h0 htab (by decide +kernel) (by decide +kernel) q170 q8 xhat_xIA xgood_xIA dX6_checkRange_10 dX6_checkRange_13 dX6_checkRange_14 dX6_checkRange_16 dX6_checkRange_19 (by decide) (by first | exact Nat.le_of_ble_eq_true rfl | (simp [rv_cat]; done) | (simp (decide := true) [rv_cat, cat_ref, cat_int]; done)) (by decide) (by decide) h
