/-! PlantServer$Item.<init> -/
theorem dX1_init_0 : decode cX1_init 0 = .ok (.aload_n 0, 1) := by decide +kernel
theorem dX1_init_1 : decode cX1_init 1 = .ok (.invokespecial 1, 3) := by decide +kernel
theorem dX1_init_4 : decode cX1_init 4 = .ok (.aload_n 0, 1) := by decide +kernel
theorem dX1_init_5 : decode cX1_init 5 = .ok (.iconst 1, 1) := by decide +kernel
theorem dX1_init_6 : decode cX1_init 6 = .ok (.putfield 7, 3) := by decide +kernel
theorem dX1_init_9 : decode cX1_init 9 = .ok (.aload_n 0, 1) := by decide +kernel
theorem dX1_init_10 : decode cX1_init 10 = .ok (.iconst 0, 1) := by decide +kernel
theorem dX1_init_11 : decode cX1_init 11 = .ok (.putfield 13, 3) := by decide +kernel
theorem dX1_init_14 : decode cX1_init 14 = .ok (.aload_n 0, 1) := by decide +kernel
theorem dX1_init_15 : decode cX1_init 15 = .ok (.iconst 0, 1) := by decide +kernel
theorem dX1_init_16 : decode cX1_init 16 = .ok (.putfield 17, 3) := by decide +kernel
theorem dX1_init_19 : decode cX1_init 19 = .ok (.aload_n 0, 1) := by decide +kernel
theorem dX1_init_20 : decode cX1_init 20 = .ok (.iconst 0, 1) := by decide +kernel
theorem dX1_init_21 : decode cX1_init 21 = .ok (.putfield 20, 3) := by decide +kernel
theorem dX1_init_24 : decode cX1_init 24 = .ok (.aload_n 0, 1) := by decide +kernel
theorem dX1_init_25 : decode cX1_init 25 = .ok (.iconst 0, 1) := by decide +kernel
theorem dX1_init_26 : decode cX1_init 26 = .ok (.putfield 23, 3) := by decide +kernel
theorem dX1_init_29 : decode cX1_init 29 = .ok (.aload_n 0, 1) := by decide +kernel
theorem dX1_init_30 : decode cX1_init 30 = .ok (.iconst 0, 1) := by decide +kernel
theorem dX1_init_31 : decode cX1_init 31 = .ok (.putfield 26, 3) := by decide +kernel
theorem dX1_init_34 : decode cX1_init 34 = .ok (.aload_n 0, 1) := by decide +kernel
theorem dX1_init_35 : decode cX1_init 35 = .ok (.iload_n 1, 1) := by decide +kernel
theorem dX1_init_36 : decode cX1_init 36 = .ok (.putfield 29, 3) := by decide +kernel
theorem dX1_init_39 : decode cX1_init 39 = .ok (.aload_n 0, 1) := by decide +kernel
theorem dX1_init_40 : decode cX1_init 40 = .ok (.aload_n 2, 1) := by decide +kernel
theorem dX1_init_41 : decode cX1_init 41 = .ok (.putfield 32, 3) := by decide +kernel
theorem dX1_init_44 : decode cX1_init 44 = .ok (.aload_n 0, 1) := by decide +kernel
theorem dX1_init_45 : decode cX1_init 45 = .ok (.iload_n 3, 1) := by decide +kernel
theorem dX1_init_46 : decode cX1_init 46 = .ok (.putfield 36, 3) := by decide +kernel
theorem dX1_init_49 : decode cX1_init 49 = .ok (.aload_n 0, 1) := by decide +kernel
theorem dX1_init_50 : decode cX1_init 50 = .ok (.iload 5, 2) := by decide +kernel
theorem dX1_init_52 : decode cX1_init 52 = .ok (.putfield 39, 3) := by decide +kernel
theorem dX1_init_55 : decode cX1_init 55 = .ok (.aload_n 0, 1) := by decide +kernel
theorem dX1_init_56 : decode cX1_init 56 = .ok (.new 42, 3) := by decide +kernel
theorem dX1_init_59 : decode cX1_init 59 = .ok (.dup, 1) := by decide +kernel
theorem dX1_init_60 : decode cX1_init 60 = .ok (.iload 4, 2) := by decide +kernel
theorem dX1_init_62 : decode cX1_init 62 = .ok (.invokespecial 44, 3) := by decide +kernel
theorem dX1_init_65 : decode cX1_init 65 = .ok (.putfield 47, 3) := by decide +kernel
theorem dX1_init_68 : decode cX1_init 68 = .ok (.aload_n 0, 1) := by decide +kernel
theorem dX1_init_69 : decode cX1_init 69 = .ok (.aload 6, 2) := by decide +kernel
theorem dX1_init_71 : decode cX1_init 71 = .ok (.putfield 51, 3) := by decide +kernel
theorem dX1_init_74 : decode cX1_init 74 = .ok (.return_, 1) := by decide +kernel
abbrev rm1_init : Room := { frames := 2, cells := 1, slots := 2, locals := 41 }
theorem hd1_init : yX1_init.cls ≠ "java/lang/invoke/MethodHandle" ∧ yX1_init.cls ≠ "java/lang/invoke/VarHandle" ∧ (parseMethodDescriptor yX1_init.desc).map (fun d => d.parameters.length) = some 6 := by decide +kernel
set_option maxHeartbeats 4000000 in
set_option maxRecDepth 20000 in
theorem m1_init (l : Launch) (hl : l.stackTraces = false) (G : xG) (ρ : Nm → Nat) (this : Nm) (p1 : Int32) (a2 : Nm) (p3 : Int32) (p4 : Int32) (p5 : Int32) (a6 : Nm) (σ : PH) (Q : PH → Prop) (h : w1_init this p1 a2 p3 p4 p5 a6 σ Q) : xMet l yX1_init (.code yX1_init cX1_init 7 none) rm1_init G ρ σ [.ref (ρ this), .int p1, .ref (ρ a2), .int p3, .int p4, .int p5, .ref (ρ a6)] (eVA Q) xNo := by
  refine xMet.of hl (by decide +kernel) (Nat.le_of_ble_eq_true rfl) (fun X hC hr hn htab h0 => ?_)
  have hC : xC G X "PlantServer$Item" cX1_init 7 rm1_init := hC
  unfold w1_init at h
  refine xJ.loc (L' := [(0, .ref (ρ this)), (1, .int p1), (2, .ref (ρ a2)), (3, .int p3), (4, .int p4), (5, .int p5), (6, .ref (ρ a6))]) rfl ?_
  refine x_aload_n hC 0 rfl dX1_init_0 ?_
  refine x_oinit hC q339 q22 q23 (by decide) (by first | exact Nat.le_of_ble_eq_true rfl | (simp [rv_cat]; done) | (simp (decide := true) [rv_cat, cat_ref, cat_int]; done)) dX1_init_1 ?_
  refine x_aload_n hC 0 rfl dX1_init_4 ?_
  refine x_iconst (v := 1) hC dX1_init_5 (by decide) ?_
  obtain ⟨k1, h⟩ := h
  refine x_putZ (n0 := this) hC (ci := 1) (T := TX1) (N := 12) (C := RX1) 6 k1 rfl rfl (by decide) rfl q357 rfl (tyX1_ok 6 (by decide)) zb1 dX1_init_6 ?_
  refine xJ.nmH (fun σ1 e1 => ?_)
  have h := h σ1 e1
  have r1 : hR σ1 = hR σ ∧ hL σ1 = hL σ := by rw [e1]; exact ⟨rfl, rfl⟩
  refine x_aload_n hC 0 rfl dX1_init_9 ?_
  refine x_iconst (v := 0) hC dX1_init_10 (by decide) ?_
  have k2 : hK σ1 this = 2 := by rw [e1]; exact k1
  refine x_putI (n0 := this) hC (ci := 1) (T := TX1) (N := 12) (C := RX1) 7 k2 rfl rfl (by decide) rfl q360 rfl (tyX1_ok 7 (by decide)) dX1_init_11 ?_
  refine xJ.nmH (fun σ2 e2 => ?_)
  have h := h σ2 e2
  have r2 : hR σ2 = hR σ ∧ hL σ2 = hL σ := by rw [e2]; exact ⟨r1.1, r1.2⟩
  refine x_aload_n hC 0 rfl dX1_init_14 ?_
  refine x_iconst (v := 0) hC dX1_init_15 (by decide) ?_
  have k3 : hK σ2 this = 2 := by rw [e2]; exact k2
  refine x_putI (n0 := this) hC (ci := 1) (T := TX1) (N := 12) (C := RX1) 8 k3 rfl rfl (by decide) rfl q362 rfl (tyX1_ok 8 (by decide)) dX1_init_16 ?_
  refine xJ.nmH (fun σ3 e3 => ?_)
  have h := h σ3 e3
  have r3 : hR σ3 = hR σ ∧ hL σ3 = hL σ := by rw [e3]; exact ⟨r2.1, r2.2⟩
  refine x_aload_n hC 0 rfl dX1_init_19 ?_
  refine x_iconst (v := 0) hC dX1_init_20 (by decide) ?_
  have k4 : hK σ3 this = 2 := by rw [e3]; exact k3
  refine x_putI (n0 := this) hC (ci := 1) (T := TX1) (N := 12) (C := RX1) 9 k4 rfl rfl (by decide) rfl q364 rfl (tyX1_ok 9 (by decide)) dX1_init_21 ?_
  refine xJ.nmH (fun σ4 e4 => ?_)
  have h := h σ4 e4
  have r4 : hR σ4 = hR σ ∧ hL σ4 = hL σ := by rw [e4]; exact ⟨r3.1, r3.2⟩
  refine x_aload_n hC 0 rfl dX1_init_24 ?_
  refine x_iconst (v := 0) hC dX1_init_25 (by decide) ?_
  have k5 : hK σ4 this = 2 := by rw [e4]; exact k4
  refine x_putI (n0 := this) hC (ci := 1) (T := TX1) (N := 12) (C := RX1) 10 k5 rfl rfl (by decide) rfl q365 rfl (tyX1_ok 10 (by decide)) dX1_init_26 ?_
  refine xJ.nmH (fun σ5 e5 => ?_)
  have h := h σ5 e5
  have r5 : hR σ5 = hR σ ∧ hL σ5 = hL σ := by rw [e5]; exact ⟨r4.1, r4.2⟩
  refine x_aload_n hC 0 rfl dX1_init_29 ?_
  refine x_iconst (v := 0) hC dX1_init_30 (by decide) ?_
  have k6 : hK σ5 this = 2 := by rw [e5]; exact k5
  refine x_putI (n0 := this) hC (ci := 1) (T := TX1) (N := 12) (C := RX1) 11 k6 rfl rfl (by decide) rfl q367 rfl (tyX1_ok 11 (by decide)) dX1_init_31 ?_
  refine xJ.nmH (fun σ6 e6 => ?_)
  have h := h σ6 e6
  have r6 : hR σ6 = hR σ ∧ hL σ6 = hL σ := by rw [e6]; exact ⟨r5.1, r5.2⟩
  refine x_aload_n hC 0 rfl dX1_init_34 ?_
  refine x_iload_n hC 1 rfl dX1_init_35 ?_
  have k7 : hK σ6 this = 2 := by rw [e6]; exact k6
  refine x_putIF (n0 := this) hC (ci := 1) (T := TX1) (N := 12) (C := RX1) 0 k7 rfl rfl (by decide) rfl q342 rfl rfl hn (tyX1_ok 0 (by decide)) dX1_init_36 ?_
  refine xJ.nmH (fun σ7 e7 => ?_)
  have h := h σ7 e7
  have r7 : hR σ7 = hR σ ∧ hL σ7 = hL σ := by rw [e7]; exact ⟨r6.1, r6.2⟩
  refine x_aload_n hC 0 rfl dX1_init_39 ?_
  refine x_aload_n hC 2 rfl dX1_init_40 ?_
  have k8 : hK σ7 this = 2 := by rw [e7]; exact k7
  obtain ⟨z1, h⟩ := h
  refine x_putRF (m0 := a2) (n0 := this) hC (ci := 1) (T := TX1) (N := 12) (C := RX1) 1 k8 rfl rfl (by decide) rfl q345 rfl rfl hn (tyX1_ok 1 (by decide)) rfl rfl z1 dX1_init_41 ?_
  refine xJ.nmH (fun σ8 e8 => ?_)
  have h := h σ8 e8
  have r8 : hR σ8 = hR σ8 ∧ hL σ8 = hL σ := by rw [e8]; exact ⟨rfl, r7.2⟩
  refine x_aload_n hC 0 rfl dX1_init_44 ?_
  refine x_iload_n hC 3 rfl dX1_init_45 ?_
  have k9 : hK σ8 this = 2 := by rw [e8]; exact k8
  refine x_putIF (n0 := this) hC (ci := 1) (T := TX1) (N := 12) (C := RX1) 2 k9 rfl rfl (by decide) rfl q347 rfl rfl hn (tyX1_ok 2 (by decide)) dX1_init_46 ?_
  refine xJ.nmH (fun σ9 e9 => ?_)
  have h := h σ9 e9
  have r9 : hR σ9 = hR σ8 ∧ hL σ9 = hL σ := by rw [e9]; exact ⟨r8.1, r8.2⟩
  refine x_aload_n hC 0 rfl dX1_init_49 ?_
  refine x_iload hC 5 rfl dX1_init_50 ?_
  have k10 : hK σ9 this = 2 := by rw [e9]; exact k9
  refine x_putIF (n0 := this) hC (ci := 1) (T := TX1) (N := 12) (C := RX1) 3 k10 rfl rfl (by decide) rfl q350 rfl rfl hn (tyX1_ok 3 (by decide)) dX1_init_52 ?_
  refine xJ.nmH (fun σ10 e10 => ?_)
  have h := h σ10 e10
  have r10 : hR σ10 = hR σ8 ∧ hL σ10 = hL σ := by rw [e10]; exact ⟨r9.1, r9.2⟩
  refine x_aload_n hC 0 rfl dX1_init_55 ?_
  obtain ⟨n1, hz1, h⟩ := h
  have k11 : hK σ10 this = 2 := by rw [e10]; exact k10
  obtain ⟨z2, h⟩ := h
  refine x_new (ci := 5) (T := TX5) (N := 2) (C := RX5) hC n1 hz1 rfl xdf5 q340 q193 q12 (by decide) (by decide) dX1_init_56 (fun ρ1 hρ1 => ?_)
  refine xJ.sub (L' := [(0, .ref (ρ this)), (4, .int p4), (6, .ref (ρ a6))]) [0, 4, 6] rfl ?_
  rw [← hρ1 this (by rw [k11]; decide), ← hρ1 a6 z2]
  refine xJ.nmH (fun σ11 e11 => ?_)
  have h := h σ11 e11
  have k12 : hK σ11 n1 = 6 := by rw [e11]; exact sN_c
  refine x_dup hC (by first | rfl | exact rv_cat) dX1_init_59 ?_
  refine x_iload hC 1 rfl dX1_init_60 ?_
  refine x_callI (as := [.int p4]) (rest := [.ref (ρ1 n1), .ref (ρ1 this)]) hC (fun l hl => m5_init l hl G ρ1 n1 p4 σ11 _ h) q341 q195 q12 q196 rfl hd5_init (by decide) ⟨(by decide), (by decide)⟩ (by first | exact Nat.le_of_ble_eq_true rfl | (simp [rv_cat]; done) | (simp (decide := true) [rv_cat, cat_ref, cat_int]; done)) rfl dX1_init_62 (fun E σ9 hx => False.elim hx) (fun v1 σ12 ρ2 hp1 hag1 => ?_)
  obtain ⟨e9, e8, h⟩ := hp1
  rw [e8, e9]
  refine xJ.nrm (k' := 1) (n' := 2) (pc' := 65) (st' := [.ref (ρ1 n1), .ref (ρ1 this)]) rfl rfl rfl rfl ?_
  have k13 : hK σ11 this = 2 := by rw [e11]; exact sN_k hz1 k11 (by decide)
  have k14 : hK σ12 this = 2 := (hag1 this (by rw [k13]; decide)).1.trans k13
  have k15 : hK σ12 n1 = 6 := (hag1 n1 (by rw [k12]; decide)).1.trans k12
  refine x_putRF (m0 := n1) (n0 := this) hC (ci := 1) (T := TX1) (N := 12) (C := RX1) 4 k14 rfl rfl (by decide) rfl q351 rfl rfl hn (tyX1_ok 4 (by decide)) rfl rfl (by rw [k15]; decide) dX1_init_65 ?_
  refine xJ.nmH (fun σ13 e12 => ?_)
  have h := h σ13 e12
  have r11 : hR σ13 = hR σ13 ∧ hL σ13 = hL σ12 := by rw [e12]; exact ⟨rfl, rfl⟩
  refine x_aload_n hC 0 rfl dX1_init_68 ?_
  refine x_aload hC 2 rfl dX1_init_69 ?_
  have k16 : hK σ13 this = 2 := by rw [e12]; exact k14
  obtain ⟨z3, h⟩ := h
  refine x_putRF (m0 := a6) (n0 := this) hC (ci := 1) (T := TX1) (N := 12) (C := RX1) 5 k16 rfl rfl (by decide) rfl q354 rfl rfl hn (tyX1_ok 5 (by decide)) rfl rfl z3 dX1_init_71 ?_
  refine xJ.nmH (fun σ14 e13 => ?_)
  have h := h σ14 e13
  have r12 : hR σ14 = hR σ14 ∧ hL σ14 = hL σ12 := by rw [e13]; exact ⟨rfl, r11.2⟩
  exact x_vret hC hr dX1_init_74 (by decide) (by decide) ⟨rfl, h⟩
/-! PlantServer$Subscription.take -/
theorem dX4_take_0 : decode cX4_take 0 = .ok (.aload_n 0, 1) := by decide +kernel
theorem dX4_take_1 : decode cX4_take 1 = .ok (.getfield 27, 3) := by decide +kernel
theorem dX4_take_4 : decode cX4_take 4 = .ok (.bipush 16, 2) := by decide +kernel
theorem dX4_take_6 : decode cX4_take 6 = .ok (.if_icmp .ge 23, 3) := by decide +kernel
theorem dX4_take_9 : decode cX4_take 9 = .ok (.aload_n 0, 1) := by decide +kernel
theorem dX4_take_10 : decode cX4_take 10 = .ok (.getfield 11, 3) := by decide +kernel
theorem dX4_take_13 : decode cX4_take 13 = .ok (.aload_n 0, 1) := by decide +kernel
theorem dX4_take_14 : decode cX4_take 14 = .ok (.getfield 27, 3) := by decide +kernel
theorem dX4_take_17 : decode cX4_take 17 = .ok (.aload_n 1, 1) := by decide +kernel
theorem dX4_take_18 : decode cX4_take 18 = .ok (.aastore, 1) := by decide +kernel
theorem dX4_take_19 : decode cX4_take 19 = .ok (.aload_n 0, 1) := by decide +kernel
theorem dX4_take_20 : decode cX4_take 20 = .ok (.dup, 1) := by decide +kernel
theorem dX4_take_21 : decode cX4_take 21 = .ok (.getfield 27, 3) := by decide +kernel
theorem dX4_take_24 : decode cX4_take 24 = .ok (.iconst 1, 1) := by decide +kernel
theorem dX4_take_25 : decode cX4_take 25 = .ok (.iadd, 1) := by decide +kernel
theorem dX4_take_26 : decode cX4_take 26 = .ok (.putfield 27, 3) := by decide +kernel
theorem dX4_take_29 : decode cX4_take 29 = .ok (.return_, 1) := by decide +kernel
abbrev rm4_take : Room := { frames := 0, cells := 0, slots := 0, locals := 0 }
theorem hd4_take : yX4_take.cls ≠ "java/lang/invoke/MethodHandle" ∧ yX4_take.cls ≠ "java/lang/invoke/VarHandle" ∧ (parseMethodDescriptor yX4_take.desc).map (fun d => d.parameters.length) = some 1 := by decide +kernel
set_option maxHeartbeats 4000000 in
set_option maxRecDepth 20000 in
theorem m4_take (l : Launch) (hl : l.stackTraces = false) (G : xG) (ρ : Nm → Nat) (this : Nm) (a1 : Nm) (σ : PH) (Q : PH → Prop) (h : w4_take this a1 σ Q) : xMet l yX4_take (.code yX4_take cX4_take 2 none) rm4_take G ρ σ [.ref (ρ this), .ref (ρ a1)] (eV ρ Q) xNo := by
  refine xMet.of hl (by decide +kernel) (Nat.le_of_ble_eq_true rfl) (fun X hC hr hn htab h0 => ?_)
  have hC : xC G X "PlantServer$Subscription" cX4_take 2 rm4_take := hC
  unfold w4_take at h
  refine xJ.loc (L' := [(0, .ref (ρ this)), (1, .ref (ρ a1))]) rfl ?_
  refine x_aload_n hC 0 rfl dX4_take_0 ?_
  obtain ⟨k1, h⟩ := h
  refine x_getI (n0 := this) hC (ci := 4) (T := TX4) (N := 14) (C := RX4) 8 k1 rfl rfl (by decide) rfl q217 dX4_take_1 ?_
  refine x_bipush (v := 16) hC dX4_take_4 (by decide) ?_
  refine x_icmp_ge (tgt := 29) hC dX4_take_6 (by decide) (fun c1 => ?_) (fun c1 => ?_)
  · have h := h.1 c1
    exact x_vret hC hr dX4_take_29 (by decide) (by decide) ⟨rfl, rfl, h⟩
  · have h := h.2 c1
    refine x_aload_n hC 0 rfl dX4_take_9 ?_
    refine x_getR (n0 := this) hC (ci := 4) (T := TX4) (N := 14) (C := RX4) 5 k1 rfl rfl (by decide) rfl q213 dX4_take_10 ?_
    refine x_aload_n hC 0 rfl dX4_take_13 ?_
    refine x_getI (n0 := this) hC (ci := 4) (T := TX4) (N := 14) (C := RX4) 8 k1 rfl rfl (by decide) rfl q217 dX4_take_14 ?_
    refine x_aload_n hC 1 rfl dX4_take_17 ?_
    obtain ⟨m1, hm1, h⟩ := h
    rw [show rv ρ (hR σ this 5) = Value.ref (ρ m1) from by rw [hm1]; rfl]
    obtain ⟨k2, h⟩ := h
    obtain ⟨v1, h⟩ := h
    obtain ⟨k3, h⟩ := h
    refine x_aast11 (a := m1) (o := some a1) hC (fun m hm => by cases hm; exact k3) k2 v1 dX4_take_18 ?_
    refine xJ.nmH (fun σ1 e1 => ?_)
    have h := h σ1 e1
    have r1 : hR σ1 = hR σ1 ∧ hL σ1 = hL σ := by rw [e1]; exact ⟨rfl, rfl⟩
    refine x_aload_n hC 0 rfl dX4_take_19 ?_
    refine x_dup hC (by first | rfl | exact rv_cat) dX4_take_20 ?_
    have k4 : hK σ1 this = 5 := by rw [e1]; exact k1
    refine x_getI (n0 := this) hC (ci := 4) (T := TX4) (N := 14) (C := RX4) 8 k4 rfl rfl (by decide) rfl q217 dX4_take_21 ?_
    refine x_iconst (v := 1) hC dX4_take_24 (by decide) ?_
    refine x_iadd hC dX4_take_25 ?_
    refine x_putI (n0 := this) hC (ci := 4) (T := TX4) (N := 14) (C := RX4) 8 k4 rfl rfl (by decide) rfl q217 rfl (tyX4_ok 8 (by decide)) dX4_take_26 ?_
    refine xJ.nmH (fun σ2 e2 => ?_)
    have h := h σ2 e2
    have r2 : hR σ2 = hR σ1 ∧ hL σ2 = hL σ := by rw [e2]; exact ⟨r1.1, r1.2⟩
    exact x_vret hC hr dX4_take_29 (by decide) (by decide) ⟨rfl, rfl, h⟩
/-! PlantServer$Queue.append -/
theorem dX3_append_0 : decode cX3_append 0 = .ok (.aload_n 0, 1) := by decide +kernel
theorem dX3_append_1 : decode cX3_append 1 = .ok (.getfield 19, 3) := by decide +kernel
theorem dX3_append_4 : decode cX3_append 4 = .ok (.iconst 4, 1) := by decide +kernel
theorem dX3_append_5 : decode cX3_append 5 = .ok (.if_icmp .ge 33, 3) := by decide +kernel
theorem dX3_append_8 : decode cX3_append 8 = .ok (.aload_n 0, 1) := by decide +kernel
theorem dX3_append_9 : decode cX3_append 9 = .ok (.getfield 9, 3) := by decide +kernel
theorem dX3_append_12 : decode cX3_append 12 = .ok (.aload_n 0, 1) := by decide +kernel
theorem dX3_append_13 : decode cX3_append 13 = .ok (.getfield 19, 3) := by decide +kernel
theorem dX3_append_16 : decode cX3_append 16 = .ok (.iload_n 1, 1) := by decide +kernel
theorem dX3_append_17 : decode cX3_append 17 = .ok (.iastore, 1) := by decide +kernel
theorem dX3_append_18 : decode cX3_append 18 = .ok (.aload_n 0, 1) := by decide +kernel
theorem dX3_append_19 : decode cX3_append 19 = .ok (.getfield 15, 3) := by decide +kernel
theorem dX3_append_22 : decode cX3_append 22 = .ok (.aload_n 0, 1) := by decide +kernel
theorem dX3_append_23 : decode cX3_append 23 = .ok (.getfield 19, 3) := by decide +kernel
theorem dX3_append_26 : decode cX3_append 26 = .ok (.iload_n 2, 1) := by decide +kernel
theorem dX3_append_27 : decode cX3_append 27 = .ok (.bastore, 1) := by decide +kernel
theorem dX3_append_28 : decode cX3_append 28 = .ok (.aload_n 0, 1) := by decide +kernel
theorem dX3_append_29 : decode cX3_append 29 = .ok (.dup, 1) := by decide +kernel
theorem dX3_append_30 : decode cX3_append 30 = .ok (.getfield 19, 3) := by decide +kernel
theorem dX3_append_33 : decode cX3_append 33 = .ok (.iconst 1, 1) := by decide +kernel
theorem dX3_append_34 : decode cX3_append 34 = .ok (.iadd, 1) := by decide +kernel
theorem dX3_append_35 : decode cX3_append 35 = .ok (.putfield 19, 3) := by decide +kernel
theorem dX3_append_38 : decode cX3_append 38 = .ok (.return_, 1) := by decide +kernel
abbrev rm3_append : Room := { frames := 0, cells := 0, slots := 0, locals := 0 }
theorem hd3_append : yX3_append.cls ≠ "java/lang/invoke/MethodHandle" ∧ yX3_append.cls ≠ "java/lang/invoke/VarHandle" ∧ (parseMethodDescriptor yX3_append.desc).map (fun d => d.parameters.length) = some 2 := by decide +kernel
set_option maxHeartbeats 4000000 in
set_option maxRecDepth 20000 in
theorem m3_append (l : Launch) (hl : l.stackTraces = false) (G : xG) (ρ : Nm → Nat) (this : Nm) (p1 : Int32) (p2 : Int32) (σ : PH) (Q : PH → Prop) (h : w3_append this p1 p2 σ Q) : xMet l yX3_append (.code yX3_append cX3_append 3 none) rm3_append G ρ σ [.ref (ρ this), .int p1, .int p2] (eV ρ Q) xNo := by
  refine xMet.of hl (by decide +kernel) (Nat.le_of_ble_eq_true rfl) (fun X hC hr hn htab h0 => ?_)
  have hC : xC G X "PlantServer$Queue" cX3_append 3 rm3_append := hC
  unfold w3_append at h
  refine xJ.loc (L' := [(0, .ref (ρ this)), (1, .int p1), (2, .int p2)]) rfl ?_
  refine x_aload_n hC 0 rfl dX3_append_0 ?_
  obtain ⟨k1, h⟩ := h
  refine x_getI (n0 := this) hC (ci := 3) (T := TX3) (N := 5) (C := RX3) 4 k1 rfl rfl (by decide) rfl q320 dX3_append_1 ?_
  refine x_iconst (v := 4) hC dX3_append_4 (by decide) ?_
  refine x_icmp_ge (tgt := 38) hC dX3_append_5 (by decide) (fun c1 => ?_) (fun c1 => ?_)
  · have h := h.1 c1
    exact x_vret hC hr dX3_append_38 (by decide) (by decide) ⟨rfl, rfl, h⟩
  · have h := h.2 c1
    refine x_aload_n hC 0 rfl dX3_append_8 ?_
    refine x_getR (n0 := this) hC (ci := 3) (T := TX3) (N := 5) (C := RX3) 2 k1 rfl rfl (by decide) rfl q316 dX3_append_9 ?_
    refine x_aload_n hC 0 rfl dX3_append_12 ?_
    refine x_getI (n0 := this) hC (ci := 3) (T := TX3) (N := 5) (C := RX3) 4 k1 rfl rfl (by decide) rfl q320 dX3_append_13 ?_
    refine x_iload_n hC 1 rfl dX3_append_16 ?_
    obtain ⟨m1, hm1, h⟩ := h
    rw [show rv ρ (hR σ this 2) = Value.ref (ρ m1) from by rw [hm1]; rfl]
    obtain ⟨k2, h⟩ := h
    obtain ⟨v1, h⟩ := h
    refine x_iast (a := m1) hC k2 v1 dX3_append_17 ?_
    refine xJ.nmH (fun σ1 e1 => ?_)
    have h := h σ1 e1
    have r1 : hR σ1 = hR σ ∧ hL σ1 = hL σ := by rw [e1]; exact ⟨rfl, rfl⟩
    refine x_aload_n hC 0 rfl dX3_append_18 ?_
    have k3 : hK σ1 this = 4 := by rw [e1]; exact k1
    refine x_getR (n0 := this) hC (ci := 3) (T := TX3) (N := 5) (C := RX3) 3 k3 rfl rfl (by decide) rfl q318 dX3_append_19 ?_
    rw [r1.1]
    refine x_aload_n hC 0 rfl dX3_append_22 ?_
    refine x_getI (n0 := this) hC (ci := 3) (T := TX3) (N := 5) (C := RX3) 4 k3 rfl rfl (by decide) rfl q320 dX3_append_23 ?_
    refine x_iload_n hC 2 rfl dX3_append_26 ?_
    obtain ⟨m2, hm2, h⟩ := h
    rw [show rv ρ (hR σ this 3) = Value.ref (ρ m2) from by rw [hm2]; rfl]
    obtain ⟨k4, h⟩ := h
    obtain ⟨v2, h⟩ := h
    obtain ⟨zh1, h⟩ := h
    refine x_zast (a := m2) hC zh1 k4 (by rw [r1.2]; exact v2) dX3_append_27 ?_
    refine xJ.nmH (fun σ2 e2 => ?_)
    have h := h σ2 e2
    have r2 : hR σ2 = hR σ ∧ hL σ2 = hL σ := by rw [e2]; exact ⟨r1.1, r1.2⟩
    refine x_aload_n hC 0 rfl dX3_append_28 ?_
    refine x_dup hC (by first | rfl | exact rv_cat) dX3_append_29 ?_
    have k5 : hK σ2 this = 4 := by rw [e2]; exact k3
    refine x_getI (n0 := this) hC (ci := 3) (T := TX3) (N := 5) (C := RX3) 4 k5 rfl rfl (by decide) rfl q320 dX3_append_30 ?_
    refine x_iconst (v := 1) hC dX3_append_33 (by decide) ?_
    refine x_iadd hC dX3_append_34 ?_
    refine x_putI (n0 := this) hC (ci := 3) (T := TX3) (N := 5) (C := RX3) 4 k5 rfl rfl (by decide) rfl q320 rfl (tyX3_ok 4 (by decide)) dX3_append_35 ?_
    refine xJ.nmH (fun σ3 e3 => ?_)
    have h := h σ3 e3
    have r3 : hR σ3 = hR σ ∧ hL σ3 = hL σ := by rw [e3]; exact ⟨r2.1, r2.2⟩
    exact x_vret hC hr dX3_append_38 (by decide) (by decide) ⟨rfl, rfl, h⟩
/-! PlantServer$Queue.dropFirst -/
theorem dX3_dropFirst_0 : decode cX3_dropFirst 0 = .ok (.iconst 1, 1) := by decide +kernel
theorem dX3_dropFirst_1 : decode cX3_dropFirst 1 = .ok (.istore_n 1, 1) := by decide +kernel
theorem dX3_dropFirst_2 : decode cX3_dropFirst 2 = .ok (.iload_n 1, 1) := by decide +kernel
theorem dX3_dropFirst_3 : decode cX3_dropFirst 3 = .ok (.aload_n 0, 1) := by decide +kernel
theorem dX3_dropFirst_4 : decode cX3_dropFirst 4 = .ok (.getfield 19, 3) := by decide +kernel
theorem dX3_dropFirst_7 : decode cX3_dropFirst 7 = .ok (.if_icmp .ge 37, 3) := by decide +kernel
theorem dX3_dropFirst_10 : decode cX3_dropFirst 10 = .ok (.aload_n 0, 1) := by decide +kernel
theorem dX3_dropFirst_11 : decode cX3_dropFirst 11 = .ok (.getfield 9, 3) := by decide +kernel
theorem dX3_dropFirst_14 : decode cX3_dropFirst 14 = .ok (.iload_n 1, 1) := by decide +kernel
theorem dX3_dropFirst_15 : decode cX3_dropFirst 15 = .ok (.iconst 1, 1) := by decide +kernel
theorem dX3_dropFirst_16 : decode cX3_dropFirst 16 = .ok (.isub, 1) := by decide +kernel
theorem dX3_dropFirst_17 : decode cX3_dropFirst 17 = .ok (.aload_n 0, 1) := by decide +kernel
theorem dX3_dropFirst_18 : decode cX3_dropFirst 18 = .ok (.getfield 9, 3) := by decide +kernel
theorem dX3_dropFirst_21 : decode cX3_dropFirst 21 = .ok (.iload_n 1, 1) := by decide +kernel
theorem dX3_dropFirst_22 : decode cX3_dropFirst 22 = .ok (.iaload, 1) := by decide +kernel
theorem dX3_dropFirst_23 : decode cX3_dropFirst 23 = .ok (.iastore, 1) := by decide +kernel
theorem dX3_dropFirst_24 : decode cX3_dropFirst 24 = .ok (.aload_n 0, 1) := by decide +kernel
theorem dX3_dropFirst_25 : decode cX3_dropFirst 25 = .ok (.getfield 15, 3) := by decide +kernel
theorem dX3_dropFirst_28 : decode cX3_dropFirst 28 = .ok (.iload_n 1, 1) := by decide +kernel
theorem dX3_dropFirst_29 : decode cX3_dropFirst 29 = .ok (.iconst 1, 1) := by decide +kernel
theorem dX3_dropFirst_30 : decode cX3_dropFirst 30 = .ok (.isub, 1) := by decide +kernel
theorem dX3_dropFirst_31 : decode cX3_dropFirst 31 = .ok (.aload_n 0, 1) := by decide +kernel
theorem dX3_dropFirst_32 : decode cX3_dropFirst 32 = .ok (.getfield 15, 3) := by decide +kernel
theorem dX3_dropFirst_35 : decode cX3_dropFirst 35 = .ok (.iload_n 1, 1) := by decide +kernel
theorem dX3_dropFirst_36 : decode cX3_dropFirst 36 = .ok (.baload, 1) := by decide +kernel
theorem dX3_dropFirst_37 : decode cX3_dropFirst 37 = .ok (.bastore, 1) := by decide +kernel
theorem dX3_dropFirst_38 : decode cX3_dropFirst 38 = .ok (.iinc 1 1, 3) := by decide +kernel
theorem dX3_dropFirst_41 : decode cX3_dropFirst 41 = .ok (.goto (-39), 3) := by decide +kernel
theorem dX3_dropFirst_44 : decode cX3_dropFirst 44 = .ok (.aload_n 0, 1) := by decide +kernel
theorem dX3_dropFirst_45 : decode cX3_dropFirst 45 = .ok (.getfield 19, 3) := by decide +kernel
theorem dX3_dropFirst_48 : decode cX3_dropFirst 48 = .ok (.ifCond .le 13, 3) := by decide +kernel
theorem dX3_dropFirst_51 : decode cX3_dropFirst 51 = .ok (.aload_n 0, 1) := by decide +kernel
theorem dX3_dropFirst_52 : decode cX3_dropFirst 52 = .ok (.dup, 1) := by decide +kernel
theorem dX3_dropFirst_53 : decode cX3_dropFirst 53 = .ok (.getfield 19, 3) := by decide +kernel
theorem dX3_dropFirst_56 : decode cX3_dropFirst 56 = .ok (.iconst 1, 1) := by decide +kernel
theorem dX3_dropFirst_57 : decode cX3_dropFirst 57 = .ok (.isub, 1) := by decide +kernel
theorem dX3_dropFirst_58 : decode cX3_dropFirst 58 = .ok (.putfield 19, 3) := by decide +kernel
theorem dX3_dropFirst_61 : decode cX3_dropFirst 61 = .ok (.return_, 1) := by decide +kernel
abbrev rm3_dropFirst : Room := { frames := 0, cells := 0, slots := 0, locals := 0 }
theorem hd3_dropFirst : yX3_dropFirst.cls ≠ "java/lang/invoke/MethodHandle" ∧ yX3_dropFirst.cls ≠ "java/lang/invoke/VarHandle" ∧ (parseMethodDescriptor yX3_dropFirst.desc).map (fun d => d.parameters.length) = some 0 := by decide +kernel
set_option maxHeartbeats 4000000 in
set_option maxRecDepth 20000 in
theorem ml3_dropFirst_2 {G : xG} {X : xX} (hC : xC G X "PlantServer$Queue" cX3_dropFirst 2 rm3_dropFirst) (hr : xRt X none) (htab : xTab X []) (this : Nm) {ρ : Nm → Nat} (h0 : xR0 X ρ) (k n : Nat) (hk1 : k ≤ 0) (hk2 : n ≤ 0) (K : Int32 → PH → Prop) (Q : PH → Prop) (Xp : String → PH → Prop) : ∀ (f2 : Nat) (x2_1 : Int32) (τ2 : PH), l3_dropFirst_2 this K Q f2 x2_1 τ2 → (∀ (x2_1 : Int32) (τ2 : PH), K x2_1 τ2 → xJ G X (xT X (eV ρ Q) Xp G rm3_dropFirst) 2 ρ τ2 k n 44 [(0, .ref (ρ this)), (1, .int x2_1)] []) → xJ G X (xT X (eV ρ Q) Xp G rm3_dropFirst) 2 ρ τ2 k n 2 [(0, .ref (ρ this)), (1, .int x2_1)] [] := by
  intro f2
  induction f2 with
  | zero => intro x2_1 τ2 h hKK; unfold l3_dropFirst_2 at h; exact h.elim
  | succ f2 ih =>
    intro x2_1 τ2 h hKK
    unfold l3_dropFirst_2 at h
    refine x_iload_n hC 1 rfl dX3_dropFirst_2 ?_
    refine x_aload_n hC 0 rfl dX3_dropFirst_3 ?_
    obtain ⟨k1, h⟩ := h
    refine x_getI (n0 := this) hC (ci := 3) (T := TX3) (N := 5) (C := RX3) 4 k1 rfl rfl (by decide) rfl q320 dX3_dropFirst_4 ?_
    refine x_icmp_ge (tgt := 44) hC dX3_dropFirst_7 (by decide) (fun c1 => ?_) (fun c1 => ?_)
    · have h := h.1 c1
      exact hKK _ _ h
    · have h := h.2 c1
      refine x_aload_n hC 0 rfl dX3_dropFirst_10 ?_
      refine x_getR (n0 := this) hC (ci := 3) (T := TX3) (N := 5) (C := RX3) 2 k1 rfl rfl (by decide) rfl q316 dX3_dropFirst_11 ?_
      refine x_iload_n hC 1 rfl dX3_dropFirst_14 ?_
      refine x_iconst (v := 1) hC dX3_dropFirst_15 (by decide) ?_
      refine x_isub hC dX3_dropFirst_16 ?_
      refine x_aload_n hC 0 rfl dX3_dropFirst_17 ?_
      refine x_getR (n0 := this) hC (ci := 3) (T := TX3) (N := 5) (C := RX3) 2 k1 rfl rfl (by decide) rfl q316 dX3_dropFirst_18 ?_
      refine x_iload_n hC 1 rfl dX3_dropFirst_21 ?_
      obtain ⟨m1, hm1, h⟩ := h
      rw [show rv ρ (hR τ2 this 2) = Value.ref (ρ m1) from by rw [hm1]; rfl]
      obtain ⟨k2, h⟩ := h
      obtain ⟨v1, h⟩ := h
      refine x_iald (a := m1) hC k2 v1 dX3_dropFirst_22 ?_
      obtain ⟨v2, h⟩ := h
      refine x_iast (a := m1) hC k2 v2 dX3_dropFirst_23 ?_
      refine xJ.nmH (fun σ1 e1 => ?_)
      have h := h σ1 e1
      have r1 : hR σ1 = hR τ2 ∧ hL σ1 = hL τ2 := by rw [e1]; exact ⟨rfl, rfl⟩
      refine x_aload_n hC 0 rfl dX3_dropFirst_24 ?_
      have k3 : hK σ1 this = 4 := by rw [e1]; exact k1
      refine x_getR (n0 := this) hC (ci := 3) (T := TX3) (N := 5) (C := RX3) 3 k3 rfl rfl (by decide) rfl q318 dX3_dropFirst_25 ?_
      rw [r1.1]
      refine x_iload_n hC 1 rfl dX3_dropFirst_28 ?_
      refine x_iconst (v := 1) hC dX3_dropFirst_29 (by decide) ?_
      refine x_isub hC dX3_dropFirst_30 ?_
      refine x_aload_n hC 0 rfl dX3_dropFirst_31 ?_
      refine x_getR (n0 := this) hC (ci := 3) (T := TX3) (N := 5) (C := RX3) 3 k3 rfl rfl (by decide) rfl q318 dX3_dropFirst_32 ?_
      rw [r1.1]
      refine x_iload_n hC 1 rfl dX3_dropFirst_35 ?_
      obtain ⟨m2, hm2, h⟩ := h
      rw [show rv ρ (hR τ2 this 3) = Value.ref (ρ m2) from by rw [hm2]; rfl]
      obtain ⟨k4, h⟩ := h
      obtain ⟨v3, h⟩ := h
      refine x_zald (a := m2) hC k4 (by rw [r1.2]; exact v3) dX3_dropFirst_36 ?_
      obtain ⟨v4, h⟩ := h
      obtain ⟨zh1, h⟩ := h
      refine x_zast (a := m2) hC zh1 k4 (by rw [r1.2]; exact v4) dX3_dropFirst_37 ?_
      refine xJ.nmH (fun σ2 e2 => ?_)
      have h := h σ2 e2
      have r2 : hR σ2 = hR τ2 ∧ hL σ2 = hL τ2 := by rw [e2]; exact ⟨r1.1, r1.2⟩
      refine x_iinc (v' := x2_1 + 1) (L' := [(1, .int (x2_1 + 1)), (0, .ref (ρ this))]) hC 1 rfl dX3_dropFirst_38 rfl (by decide) (by first | rfl | simp (decide := true) [rv_cat, cat_ref, cat_int]) ?_
      refine x_goto (tgt := 2) hC dX3_dropFirst_41 (by decide) ?_
      refine xJ.sub (L' := [(0, .ref (ρ this)), (1, .int (x2_1 + 1))]) [1, 0] rfl ?_
      exact ih _ _ h hKK
set_option maxHeartbeats 4000000 in
set_option maxRecDepth 20000 in
theorem m3_dropFirst (l : Launch) (hl : l.stackTraces = false) (G : xG) (ρ : Nm → Nat) (this : Nm) (σ : PH) (Q : PH → Prop) (h : w3_dropFirst this σ Q) : xMet l yX3_dropFirst (.code yX3_dropFirst cX3_dropFirst 2 none) rm3_dropFirst G ρ σ [.ref (ρ this)] (eV ρ Q) xNo := by
  refine xMet.of hl (by decide +kernel) (Nat.le_of_ble_eq_true rfl) (fun X hC hr hn htab h0 => ?_)
  have hC : xC G X "PlantServer$Queue" cX3_dropFirst 2 rm3_dropFirst := hC
  unfold w3_dropFirst at h
  refine xJ.loc (L' := [(0, .ref (ρ this))]) rfl ?_
  refine x_iconst (v := 1) hC dX3_dropFirst_0 (by decide) ?_
  refine x_istore_n (L' := [(1, .int 1), (0, .ref (ρ this))]) hC dX3_dropFirst_1 (by decide) (by first | rfl | simp (decide := true) [rv_cat, cat_ref, cat_int]) ?_
  refine xJ.sub (L' := [(0, .ref (ρ this)), (1, .int 1)]) [1, 0] rfl ?_
  obtain ⟨f2, h⟩ := h
  refine ml3_dropFirst_2 hC hr htab this h0 (0) (0) (by decide) (by decide) _ Q _ f2 _ _ h (fun y1 τ1 h => ?_)
  refine x_aload_n hC 0 rfl dX3_dropFirst_44 ?_
  obtain ⟨k5, h⟩ := h
  refine x_getI (n0 := this) hC (ci := 3) (T := TX3) (N := 5) (C := RX3) 4 k5 rfl rfl (by decide) rfl q320 dX3_dropFirst_45 ?_
  refine x_if_le (tgt := 61) hC dX3_dropFirst_48 (by decide) (fun c2 => ?_) (fun c2 => ?_)
  · have h := h.1 c2
    exact x_vret hC hr dX3_dropFirst_61 (by decide) (by decide) ⟨rfl, rfl, h⟩
  · have h := h.2 c2
    refine x_aload_n hC 0 rfl dX3_dropFirst_51 ?_
    refine x_dup hC (by first | rfl | exact rv_cat) dX3_dropFirst_52 ?_
    refine x_getI (n0 := this) hC (ci := 3) (T := TX3) (N := 5) (C := RX3) 4 k5 rfl rfl (by decide) rfl q320 dX3_dropFirst_53 ?_
    refine x_iconst (v := 1) hC dX3_dropFirst_56 (by decide) ?_
    refine x_isub hC dX3_dropFirst_57 ?_
    refine x_putI (n0 := this) hC (ci := 3) (T := TX3) (N := 5) (C := RX3) 4 k5 rfl rfl (by decide) rfl q320 rfl (tyX3_ok 4 (by decide)) dX3_dropFirst_58 ?_
    refine xJ.nmH (fun σ3 e3 => ?_)
    have h := h σ3 e3
    have r3 : hR σ3 = hR τ1 ∧ hL σ3 = hL τ1 := by rw [e3]; exact ⟨rfl, rfl⟩
    exact x_vret hC hr dX3_dropFirst_61 (by decide) (by decide) ⟨rfl, rfl, h⟩
/-! PlantServer$Queue.put -/
theorem dX3_put_0 : decode cX3_put 0 = .ok (.aload_n 0, 1) := by decide +kernel
theorem dX3_put_1 : decode cX3_put 1 = .ok (.getfield 19, 3) := by decide +kernel
theorem dX3_put_4 : decode cX3_put 4 = .ok (.aload_n 0, 1) := by decide +kernel
theorem dX3_put_5 : decode cX3_put 5 = .ok (.getfield 23, 3) := by decide +kernel
theorem dX3_put_8 : decode cX3_put 8 = .ok (.if_icmp .ge 12, 3) := by decide +kernel
theorem dX3_put_11 : decode cX3_put 11 = .ok (.aload_n 0, 1) := by decide +kernel
theorem dX3_put_12 : decode cX3_put 12 = .ok (.iload_n 1, 1) := by decide +kernel
theorem dX3_put_13 : decode cX3_put 13 = .ok (.iconst 0, 1) := by decide +kernel
theorem dX3_put_14 : decode cX3_put 14 = .ok (.invokevirtual 30, 3) := by decide +kernel
theorem dX3_put_17 : decode cX3_put 17 = .ok (.goto 46, 3) := by decide +kernel
theorem dX3_put_20 : decode cX3_put 20 = .ok (.aload_n 0, 1) := by decide +kernel
theorem dX3_put_21 : decode cX3_put 21 = .ok (.getfield 26, 3) := by decide +kernel
theorem dX3_put_24 : decode cX3_put 24 = .ok (.ifCond .eq 23, 3) := by decide +kernel
theorem dX3_put_27 : decode cX3_put 27 = .ok (.aload_n 0, 1) := by decide +kernel
theorem dX3_put_28 : decode cX3_put 28 = .ok (.invokevirtual 34, 3) := by decide +kernel
theorem dX3_put_31 : decode cX3_put 31 = .ok (.aload_n 0, 1) := by decide +kernel
theorem dX3_put_32 : decode cX3_put 32 = .ok (.iload_n 1, 1) := by decide +kernel
theorem dX3_put_33 : decode cX3_put 33 = .ok (.iconst 0, 1) := by decide +kernel
theorem dX3_put_34 : decode cX3_put 34 = .ok (.invokevirtual 30, 3) := by decide +kernel
theorem dX3_put_37 : decode cX3_put 37 = .ok (.aload_n 0, 1) := by decide +kernel
theorem dX3_put_38 : decode cX3_put 38 = .ok (.getfield 15, 3) := by decide +kernel
theorem dX3_put_41 : decode cX3_put 41 = .ok (.iconst 0, 1) := by decide +kernel
theorem dX3_put_42 : decode cX3_put 42 = .ok (.iconst 1, 1) := by decide +kernel
theorem dX3_put_43 : decode cX3_put 43 = .ok (.bastore, 1) := by decide +kernel
theorem dX3_put_44 : decode cX3_put 44 = .ok (.goto 19, 3) := by decide +kernel
theorem dX3_put_47 : decode cX3_put 47 = .ok (.aload_n 0, 1) := by decide +kernel
theorem dX3_put_48 : decode cX3_put 48 = .ok (.aload_n 0, 1) := by decide +kernel
theorem dX3_put_49 : decode cX3_put 49 = .ok (.getfield 23, 3) := by decide +kernel
theorem dX3_put_52 : decode cX3_put 52 = .ok (.iconst 1, 1) := by decide +kernel
theorem dX3_put_53 : decode cX3_put 53 = .ok (.isub, 1) := by decide +kernel
theorem dX3_put_54 : decode cX3_put 54 = .ok (.putfield 19, 3) := by decide +kernel
theorem dX3_put_57 : decode cX3_put 57 = .ok (.aload_n 0, 1) := by decide +kernel
theorem dX3_put_58 : decode cX3_put 58 = .ok (.iload_n 1, 1) := by decide +kernel
theorem dX3_put_59 : decode cX3_put 59 = .ok (.iconst 1, 1) := by decide +kernel
theorem dX3_put_60 : decode cX3_put 60 = .ok (.invokevirtual 30, 3) := by decide +kernel
theorem dX3_put_63 : decode cX3_put 63 = .ok (.return_, 1) := by decide +kernel
abbrev rm3_put : Room := { frames := 1, cells := 0, slots := 0, locals := 22 }
theorem hd3_put : yX3_put.cls ≠ "java/lang/invoke/MethodHandle" ∧ yX3_put.cls ≠ "java/lang/invoke/VarHandle" ∧ (parseMethodDescriptor yX3_put.desc).map (fun d => d.parameters.length) = some 1 := by decide +kernel
set_option maxHeartbeats 4000000 in
set_option maxRecDepth 20000 in
theorem m3_put (l : Launch) (hl : l.stackTraces = false) (G : xG) (ρ : Nm → Nat) (this : Nm) (p1 : Int32) (σ : PH) (Q : PH → Prop) (h : w3_put this p1 σ Q) : xMet l yX3_put (.code yX3_put cX3_put 2 none) rm3_put G ρ σ [.ref (ρ this), .int p1] (eV ρ Q) xNo := by
  refine xMet.of hl (by decide +kernel) (Nat.le_of_ble_eq_true rfl) (fun X hC hr hn htab h0 => ?_)
  have hC : xC G X "PlantServer$Queue" cX3_put 2 rm3_put := hC
  unfold w3_put at h
  refine xJ.loc (L' := [(0, .ref (ρ this)), (1, .int p1)]) rfl ?_
  refine x_aload_n hC 0 rfl dX3_put_0 ?_
  obtain ⟨k1, h⟩ := h
  refine x_getI (n0 := this) hC (ci := 3) (T := TX3) (N := 5) (C := RX3) 4 k1 rfl rfl (by decide) rfl q320 dX3_put_1 ?_
  refine x_aload_n hC 0 rfl dX3_put_4 ?_
  refine x_getI (n0 := this) hC (ci := 3) (T := TX3) (N := 5) (C := RX3) 0 k1 rfl rfl (by decide) rfl q314 dX3_put_5 ?_
  refine x_icmp_ge (tgt := 20) hC dX3_put_8 (by decide) (fun c1 => ?_) (fun c1 => ?_)
  · have h := h.1 c1
    refine x_aload_n hC 0 rfl dX3_put_20 ?_
    refine x_getI (n0 := this) hC (ci := 3) (T := TX3) (N := 5) (C := RX3) 1 k1 rfl rfl (by decide) rfl q315 dX3_put_21 ?_
    refine x_if_eq (tgt := 47) hC dX3_put_24 (by decide) (fun c2 => ?_) (fun c2 => ?_)
    · have h := h.1 c2
      refine x_aload_n hC 0 rfl dX3_put_47 ?_
      refine x_aload_n hC 0 rfl dX3_put_48 ?_
      refine x_getI (n0 := this) hC (ci := 3) (T := TX3) (N := 5) (C := RX3) 0 k1 rfl rfl (by decide) rfl q314 dX3_put_49 ?_
      refine x_iconst (v := 1) hC dX3_put_52 (by decide) ?_
      refine x_isub hC dX3_put_53 ?_
      refine x_putI (n0 := this) hC (ci := 3) (T := TX3) (N := 5) (C := RX3) 4 k1 rfl rfl (by decide) rfl q320 rfl (tyX3_ok 4 (by decide)) dX3_put_54 ?_
      refine xJ.nmH (fun σ1 e1 => ?_)
      have h := h σ1 e1
      have r1 : hR σ1 = hR σ ∧ hL σ1 = hL σ := by rw [e1]; exact ⟨rfl, rfl⟩
      refine x_aload_n hC 0 rfl dX3_put_57 ?_
      refine x_iload_n hC 1 rfl dX3_put_58 ?_
      refine x_iconst (v := 1) hC dX3_put_59 (by decide) ?_
      have k2 : hK σ1 this = 4 := by rw [e1]; exact k1
      refine x_callV (n0 := this) (as := [.int p1, .int 1]) (rest := []) hC (ci := 3) (r := (RX3, TX3, 5)) k2 rfl (fun l hl => m3_append l hl G ρ this p1 1 σ1 _ h) q410 q412 s4 q14 q413 ⟨rfl, hd3_append⟩ (by decide) ⟨(by decide), (by decide)⟩ (by first | exact Nat.le_of_ble_eq_true rfl | (simp [rv_cat]; done) | (simp (decide := true) [rv_cat, cat_ref, cat_int]; done)) rfl dX3_put_60 (fun E σ9 hx => False.elim hx) (fun v1 σ2 ρ1 hp1 hag1 => ?_)
      obtain ⟨e9, e8, h⟩ := hp1
      rw [e8, e9]
      refine xJ.nrm (k' := 0) (n' := 0) (pc' := 63) (st' := []) rfl rfl rfl rfl ?_
      exact x_vret hC hr dX3_put_63 (by decide) (by decide) ⟨rfl, rfl, h⟩
    · have h := h.2 c2
      refine x_aload_n hC 0 rfl dX3_put_27 ?_
      refine x_callV (n0 := this) (as := []) (rest := []) hC (ci := 3) (r := (RX3, TX3, 5)) k1 rfl (fun l hl => m3_dropFirst l hl G ρ this σ _ h) q414 q415 q416 q14 q417 ⟨rfl, hd3_dropFirst⟩ (by decide) ⟨(by decide), (by decide)⟩ (by first | exact Nat.le_of_ble_eq_true rfl | (simp [rv_cat]; done) | (simp (decide := true) [rv_cat, cat_ref, cat_int]; done)) rfl dX3_put_28 (fun E σ9 hx => False.elim hx) (fun v2 σ3 ρ2 hp2 hag2 => ?_)
      obtain ⟨e9, e8, h⟩ := hp2
      rw [e8, e9]
      refine xJ.nrm (k' := 0) (n' := 0) (pc' := 31) (st' := []) rfl rfl rfl rfl ?_
      refine x_aload_n hC 0 rfl dX3_put_31 ?_
      refine x_iload_n hC 1 rfl dX3_put_32 ?_
      refine x_iconst (v := 0) hC dX3_put_33 (by decide) ?_
      have k3 : hK σ3 this = 4 := (hag2 this (by rw [k1]; decide)).1.trans k1
      refine x_callV (n0 := this) (as := [.int p1, .int 0]) (rest := []) hC (ci := 3) (r := (RX3, TX3, 5)) k3 rfl (fun l hl => m3_append l hl G ρ this p1 0 σ3 _ h) q410 q412 s4 q14 q413 ⟨rfl, hd3_append⟩ (by decide) ⟨(by decide), (by decide)⟩ (by first | exact Nat.le_of_ble_eq_true rfl | (simp [rv_cat]; done) | (simp (decide := true) [rv_cat, cat_ref, cat_int]; done)) rfl dX3_put_34 (fun E σ9 hx => False.elim hx) (fun v3 σ4 ρ3 hp3 hag3 => ?_)
      obtain ⟨e9, e8, h⟩ := hp3
      rw [e8, e9]
      refine xJ.nrm (k' := 0) (n' := 0) (pc' := 37) (st' := []) rfl rfl rfl rfl ?_
      refine x_aload_n hC 0 rfl dX3_put_37 ?_
      have k4 : hK σ4 this = 4 := (hag3 this (by rw [k3]; decide)).1.trans k3
      refine x_getR (n0 := this) hC (ci := 3) (T := TX3) (N := 5) (C := RX3) 3 k4 rfl rfl (by decide) rfl q318 dX3_put_38 ?_
      refine x_iconst (v := 0) hC dX3_put_41 (by decide) ?_
      refine x_iconst (v := 1) hC dX3_put_42 (by decide) ?_
      obtain ⟨m1, hm1, h⟩ := h
      rw [show rv ρ (hR σ4 this 3) = Value.ref (ρ m1) from by rw [hm1]; rfl]
      obtain ⟨k5, h⟩ := h
      obtain ⟨v4, h⟩ := h
      refine x_zast (a := m1) hC zb1 k5 v4 dX3_put_43 ?_
      refine xJ.nmH (fun σ5 e2 => ?_)
      have h := h σ5 e2
      have r2 : hR σ5 = hR σ4 ∧ hL σ5 = hL σ4 := by rw [e2]; exact ⟨rfl, rfl⟩
      refine x_goto (tgt := 63) hC dX3_put_44 (by decide) ?_
      exact x_vret hC hr dX3_put_63 (by decide) (by decide) ⟨rfl, rfl, h⟩
  · have h := h.2 c1
    refine x_aload_n hC 0 rfl dX3_put_11 ?_
    refine x_iload_n hC 1 rfl dX3_put_12 ?_
    refine x_iconst (v := 0) hC dX3_put_13 (by decide) ?_
    refine x_callV (n0 := this) (as := [.int p1, .int 0]) (rest := []) hC (ci := 3) (r := (RX3, TX3, 5)) k1 rfl (fun l hl => m3_append l hl G ρ this p1 0 σ _ h) q410 q412 s4 q14 q413 ⟨rfl, hd3_append⟩ (by decide) ⟨(by decide), (by decide)⟩ (by first | exact Nat.le_of_ble_eq_true rfl | (simp [rv_cat]; done) | (simp (decide := true) [rv_cat, cat_ref, cat_int]; done)) rfl dX3_put_14 (fun E σ9 hx => False.elim hx) (fun v5 σ6 ρ4 hp4 hag4 => ?_)
    obtain ⟨e9, e8, h⟩ := hp4
    rw [e8, e9]
    refine xJ.nrm (k' := 0) (n' := 0) (pc' := 17) (st' := []) rfl rfl rfl rfl ?_
    refine x_goto (tgt := 63) hC dX3_put_17 (by decide) ?_
    exact x_vret hC hr dX3_put_63 (by decide) (by decide) ⟨rfl, rfl, h⟩
/-! PlantServer$Item.enqueue -/
theorem dX1_enqueue_0 : decode cX1_enqueue 0 = .ok (.aload_n 0, 1) := by decide +kernel
theorem dX1_enqueue_1 : decode cX1_enqueue 1 = .ok (.getfield 51, 3) := by decide +kernel
theorem dX1_enqueue_4 : decode cX1_enqueue 4 = .ok (.iload_n 1, 1) := by decide +kernel
theorem dX1_enqueue_5 : decode cX1_enqueue 5 = .ok (.invokevirtual 95, 3) := by decide +kernel
theorem dX1_enqueue_8 : decode cX1_enqueue 8 = .ok (.aload_n 0, 1) := by decide +kernel
theorem dX1_enqueue_9 : decode cX1_enqueue 9 = .ok (.iload_n 1, 1) := by decide +kernel
theorem dX1_enqueue_10 : decode cX1_enqueue 10 = .ok (.putfield 20, 3) := by decide +kernel
theorem dX1_enqueue_13 : decode cX1_enqueue 13 = .ok (.aload_n 0, 1) := by decide +kernel
theorem dX1_enqueue_14 : decode cX1_enqueue 14 = .ok (.dup, 1) := by decide +kernel
theorem dX1_enqueue_15 : decode cX1_enqueue 15 = .ok (.getfield 17, 3) := by decide +kernel
theorem dX1_enqueue_18 : decode cX1_enqueue 18 = .ok (.iconst 1, 1) := by decide +kernel
theorem dX1_enqueue_19 : decode cX1_enqueue 19 = .ok (.iadd, 1) := by decide +kernel
theorem dX1_enqueue_20 : decode cX1_enqueue 20 = .ok (.putfield 17, 3) := by decide +kernel
theorem dX1_enqueue_23 : decode cX1_enqueue 23 = .ok (.return_, 1) := by decide +kernel
abbrev rm1_enqueue : Room := { frames := 2, cells := 0, slots := 0, locals := 43 }
theorem hd1_enqueue : yX1_enqueue.cls ≠ "java/lang/invoke/MethodHandle" ∧ yX1_enqueue.cls ≠ "java/lang/invoke/VarHandle" ∧ (parseMethodDescriptor yX1_enqueue.desc).map (fun d => d.parameters.length) = some 1 := by decide +kernel
set_option maxHeartbeats 4000000 in
set_option maxRecDepth 20000 in
theorem m1_enqueue (l : Launch) (hl : l.stackTraces = false) (G : xG) (ρ : Nm → Nat) (this : Nm) (p1 : Int32) (σ : PH) (Q : PH → Prop) (h : w1_enqueue this p1 σ Q) : xMet l yX1_enqueue (.code yX1_enqueue cX1_enqueue 2 none) rm1_enqueue G ρ σ [.ref (ρ this), .int p1] (eV ρ Q) xNo := by
  refine xMet.of hl (by decide +kernel) (Nat.le_of_ble_eq_true rfl) (fun X hC hr hn htab h0 => ?_)
  have hC : xC G X "PlantServer$Item" cX1_enqueue 2 rm1_enqueue := hC
  unfold w1_enqueue at h
  refine xJ.loc (L' := [(0, .ref (ρ this)), (1, .int p1)]) rfl ?_
  refine x_aload_n hC 0 rfl dX1_enqueue_0 ?_
  obtain ⟨k1, h⟩ := h
  refine x_getR (n0 := this) hC (ci := 1) (T := TX1) (N := 12) (C := RX1) 5 k1 rfl rfl (by decide) rfl q354 dX1_enqueue_1 ?_
  refine x_iload_n hC 1 rfl dX1_enqueue_4 ?_
  obtain ⟨m1, hm1, h⟩ := h
  rw [show rv ρ (hR σ this 5) = Value.ref (ρ m1) from by rw [hm1]; rfl]
  obtain ⟨k2, h⟩ := h
  refine x_callV (n0 := m1) (as := [.int p1]) (rest := []) hC (ci := 3) (r := (RX3, TX3, 5)) k2 rfl (fun l hl => m3_put l hl G ρ m1 p1 σ _ h) q406 q407 q408 q14 q409 ⟨rfl, hd3_put⟩ (by decide) ⟨(by decide), (by decide)⟩ (by first | exact Nat.le_of_ble_eq_true rfl | (simp [rv_cat]; done) | (simp (decide := true) [rv_cat, cat_ref, cat_int]; done)) rfl dX1_enqueue_5 (fun E σ9 hx => False.elim hx) (fun v1 σ1 ρ1 hp1 hag1 => ?_)
  obtain ⟨e9, e8, h⟩ := hp1
  rw [e8, e9]
  refine xJ.nrm (k' := 0) (n' := 0) (pc' := 8) (st' := []) rfl rfl rfl rfl ?_
  refine x_aload_n hC 0 rfl dX1_enqueue_8 ?_
  refine x_iload_n hC 1 rfl dX1_enqueue_9 ?_
  have k3 : hK σ1 this = 2 := (hag1 this (by rw [k1]; decide)).1.trans k1
  refine x_putI (n0 := this) hC (ci := 1) (T := TX1) (N := 12) (C := RX1) 9 k3 rfl rfl (by decide) rfl q364 rfl (tyX1_ok 9 (by decide)) dX1_enqueue_10 ?_
  refine xJ.nmH (fun σ2 e1 => ?_)
  have h := h σ2 e1
  have r1 : hR σ2 = hR σ1 ∧ hL σ2 = hL σ1 := by rw [e1]; exact ⟨rfl, rfl⟩
  refine x_aload_n hC 0 rfl dX1_enqueue_13 ?_
  refine x_dup hC (by first | rfl | exact rv_cat) dX1_enqueue_14 ?_
  have k4 : hK σ2 this = 2 := by rw [e1]; exact k3
  refine x_getI (n0 := this) hC (ci := 1) (T := TX1) (N := 12) (C := RX1) 8 k4 rfl rfl (by decide) rfl q362 dX1_enqueue_15 ?_
  refine x_iconst (v := 1) hC dX1_enqueue_18 (by decide) ?_
  refine x_iadd hC dX1_enqueue_19 ?_
  refine x_putI (n0 := this) hC (ci := 1) (T := TX1) (N := 12) (C := RX1) 8 k4 rfl rfl (by decide) rfl q362 rfl (tyX1_ok 8 (by decide)) dX1_enqueue_20 ?_
  refine xJ.nmH (fun σ3 e2 => ?_)
  have h := h σ3 e2
  have r2 : hR σ3 = hR σ1 ∧ hL σ3 = hL σ1 := by rw [e2]; exact ⟨r1.1, r1.2⟩
  exact x_vret hC hr dX1_enqueue_23 (by decide) (by decide) ⟨rfl, rfl, h⟩
/-! PlantServer$Item.begin -/
theorem dX1_begin_0 : decode cX1_begin 0 = .ok (.aload_n 0, 1) := by decide +kernel
theorem dX1_begin_1 : decode cX1_begin 1 = .ok (.iload_n 1, 1) := by decide +kernel
theorem dX1_begin_2 : decode cX1_begin 2 = .ok (.putfield 23, 3) := by decide +kernel
theorem dX1_begin_5 : decode cX1_begin 5 = .ok (.aload_n 0, 1) := by decide +kernel
theorem dX1_begin_6 : decode cX1_begin 6 = .ok (.iload_n 2, 1) := by decide +kernel
theorem dX1_begin_7 : decode cX1_begin 7 = .ok (.putfield 26, 3) := by decide +kernel
theorem dX1_begin_10 : decode cX1_begin 10 = .ok (.aload_n 0, 1) := by decide +kernel
theorem dX1_begin_11 : decode cX1_begin 11 = .ok (.iload_n 3, 1) := by decide +kernel
theorem dX1_begin_12 : decode cX1_begin 12 = .ok (.invokevirtual 55, 3) := by decide +kernel
theorem dX1_begin_15 : decode cX1_begin 15 = .ok (.return_, 1) := by decide +kernel
abbrev rm1_begin : Room := { frames := 3, cells := 0, slots := 0, locals := 64 }
theorem hd1_begin : yX1_begin.cls ≠ "java/lang/invoke/MethodHandle" ∧ yX1_begin.cls ≠ "java/lang/invoke/VarHandle" ∧ (parseMethodDescriptor yX1_begin.desc).map (fun d => d.parameters.length) = some 3 := by decide +kernel
set_option maxHeartbeats 4000000 in
set_option maxRecDepth 20000 in
theorem m1_begin (l : Launch) (hl : l.stackTraces = false) (G : xG) (ρ : Nm → Nat) (this : Nm) (p1 : Int32) (p2 : Int32) (p3 : Int32) (σ : PH) (Q : PH → Prop) (h : w1_begin this p1 p2 p3 σ Q) : xMet l yX1_begin (.code yX1_begin cX1_begin 4 none) rm1_begin G ρ σ [.ref (ρ this), .int p1, .int p2, .int p3] (eV ρ Q) xNo := by
  refine xMet.of hl (by decide +kernel) (Nat.le_of_ble_eq_true rfl) (fun X hC hr hn htab h0 => ?_)
  have hC : xC G X "PlantServer$Item" cX1_begin 4 rm1_begin := hC
  unfold w1_begin at h
  refine xJ.loc (L' := [(0, .ref (ρ this)), (1, .int p1), (2, .int p2), (3, .int p3)]) rfl ?_
  refine x_aload_n hC 0 rfl dX1_begin_0 ?_
  refine x_iload_n hC 1 rfl dX1_begin_1 ?_
  obtain ⟨k1, h⟩ := h
  refine x_putI (n0 := this) hC (ci := 1) (T := TX1) (N := 12) (C := RX1) 10 k1 rfl rfl (by decide) rfl q365 rfl (tyX1_ok 10 (by decide)) dX1_begin_2 ?_
  refine xJ.nmH (fun σ1 e1 => ?_)
  have h := h σ1 e1
  have r1 : hR σ1 = hR σ ∧ hL σ1 = hL σ := by rw [e1]; exact ⟨rfl, rfl⟩
  refine x_aload_n hC 0 rfl dX1_begin_5 ?_
  refine x_iload_n hC 2 rfl dX1_begin_6 ?_
  have k2 : hK σ1 this = 2 := by rw [e1]; exact k1
  refine x_putI (n0 := this) hC (ci := 1) (T := TX1) (N := 12) (C := RX1) 11 k2 rfl rfl (by decide) rfl q367 rfl (tyX1_ok 11 (by decide)) dX1_begin_7 ?_
  refine xJ.nmH (fun σ2 e2 => ?_)
  have h := h σ2 e2
  have r2 : hR σ2 = hR σ ∧ hL σ2 = hL σ := by rw [e2]; exact ⟨r1.1, r1.2⟩
  refine x_aload_n hC 0 rfl dX1_begin_10 ?_
  refine x_iload_n hC 3 rfl dX1_begin_11 ?_
  have k3 : hK σ2 this = 2 := by rw [e2]; exact k2
  refine x_callV (n0 := this) (as := [.int p3]) (rest := []) hC (ci := 1) (r := (RX1, TX1, 12)) k3 rfl (fun l hl => m1_enqueue l hl G ρ this p3 σ2 _ h) q402 q404 s3 q13 q405 ⟨rfl, hd1_enqueue⟩ (by decide) ⟨(by decide), (by decide)⟩ (by first | exact Nat.le_of_ble_eq_true rfl | (simp [rv_cat]; done) | (simp (decide := true) [rv_cat, cat_ref, cat_int]; done)) rfl dX1_begin_12 (fun E σ9 hx => False.elim hx) (fun v1 σ3 ρ1 hp1 hag1 => ?_)
  obtain ⟨e9, e8, h⟩ := hp1
  rw [e8, e9]
  refine xJ.nrm (k' := 0) (n' := 0) (pc' := 15) (st' := []) rfl rfl rfl rfl ?_
  exact x_vret hC hr dX1_begin_15 (by decide) (by decide) ⟨rfl, rfl, h⟩
/-! PlantServer.add -/
theorem dX6_add_0 : decode cX6_add 0 = .ok (.aload_n 0, 1) := by decide +kernel
theorem dX6_add_1 : decode cX6_add 1 = .ok (.iload_n 1, 1) := by decide +kernel
theorem dX6_add_2 : decode cX6_add 2 = .ok (.invokevirtual 73, 3) := by decide +kernel
theorem dX6_add_5 : decode cX6_add 5 = .ok (.astore 7, 2) := by decide +kernel
theorem dX6_add_7 : decode cX6_add 7 = .ok (.iload_n 2, 1) := by decide +kernel
theorem dX6_add_8 : decode cX6_add 8 = .ok (.invokestatic 48, 3) := by decide +kernel
theorem dX6_add_11 : decode cX6_add 11 = .ok (.iload_n 3, 1) := by decide +kernel
theorem dX6_add_12 : decode cX6_add 12 = .ok (.iconst 1, 1) := by decide +kernel
theorem dX6_add_13 : decode cX6_add 13 = .ok (.bipush 20, 2) := by decide +kernel
theorem dX6_add_15 : decode cX6_add 15 = .ok (.invokestatic 52, 3) := by decide +kernel
theorem dX6_add_18 : decode cX6_add 18 = .ok (.iload 4, 2) := by decide +kernel
theorem dX6_add_20 : decode cX6_add 20 = .ok (.iconst 1, 1) := by decide +kernel
theorem dX6_add_21 : decode cX6_add 21 = .ok (.iconst 4, 1) := by decide +kernel
theorem dX6_add_22 : decode cX6_add 22 = .ok (.invokestatic 52, 3) := by decide +kernel
theorem dX6_add_25 : decode cX6_add 25 = .ok (.iload 6, 2) := by decide +kernel
theorem dX6_add_27 : decode cX6_add 27 = .ok (.iconst 0, 1) := by decide +kernel
theorem dX6_add_28 : decode cX6_add 28 = .ok (.sipush 1000, 3) := by decide +kernel
theorem dX6_add_31 : decode cX6_add 31 = .ok (.invokestatic 52, 3) := by decide +kernel
theorem dX6_add_34 : decode cX6_add 34 = .ok (.aload_n 0, 1) := by decide +kernel
theorem dX6_add_35 : decode cX6_add 35 = .ok (.getfield 39, 3) := by decide +kernel
theorem dX6_add_38 : decode cX6_add 38 = .ok (.bipush 16, 2) := by decide +kernel
theorem dX6_add_40 : decode cX6_add 40 = .ok (.if_icmp .lt 13, 3) := by decide +kernel
theorem dX6_add_43 : decode cX6_add 43 = .ok (.new 59, 3) := by decide +kernel
theorem dX6_add_46 : decode cX6_add 46 = .ok (.dup, 1) := by decide +kernel
theorem dX6_add_47 : decode cX6_add 47 = .ok (.ldc 82, 2) := by decide +kernel
theorem dX6_add_49 : decode cX6_add 49 = .ok (.invokespecial 63, 3) := by decide +kernel
theorem dX6_add_52 : decode cX6_add 52 = .ok (.athrow, 1) := by decide +kernel
theorem dX6_add_53 : decode cX6_add 53 = .ok (.aload_n 0, 1) := by decide +kernel
theorem dX6_add_54 : decode cX6_add 54 = .ok (.getfield 39, 3) := by decide +kernel
theorem dX6_add_57 : decode cX6_add 57 = .ok (.istore 8, 2) := by decide +kernel
theorem dX6_add_59 : decode cX6_add 59 = .ok (.new 22, 3) := by decide +kernel
theorem dX6_add_62 : decode cX6_add 62 = .ok (.dup, 1) := by decide +kernel
theorem dX6_add_63 : decode cX6_add 63 = .ok (.iload 8, 2) := by decide +kernel
theorem dX6_add_65 : decode cX6_add 65 = .ok (.aload 7, 2) := by decide +kernel
theorem dX6_add_67 : decode cX6_add 67 = .ok (.iload_n 2, 1) := by decide +kernel
theorem dX6_add_68 : decode cX6_add 68 = .ok (.iload_n 3, 1) := by decide +kernel
theorem dX6_add_69 : decode cX6_add 69 = .ok (.iload 6, 2) := by decide +kernel
theorem dX6_add_71 : decode cX6_add 71 = .ok (.new 84, 3) := by decide +kernel
theorem dX6_add_74 : decode cX6_add 74 = .ok (.dup, 1) := by decide +kernel
theorem dX6_add_75 : decode cX6_add 75 = .ok (.iload 4, 2) := by decide +kernel
theorem dX6_add_77 : decode cX6_add 77 = .ok (.iload 5, 2) := by decide +kernel
theorem dX6_add_79 : decode cX6_add 79 = .ok (.invokespecial 86, 3) := by decide +kernel
theorem dX6_add_82 : decode cX6_add 82 = .ok (.invokespecial 89, 3) := by decide +kernel
theorem dX6_add_85 : decode cX6_add 85 = .ok (.astore 9, 2) := by decide +kernel
theorem dX6_add_87 : decode cX6_add 87 = .ok (.aload_n 0, 1) := by decide +kernel
theorem dX6_add_88 : decode cX6_add 88 = .ok (.getfield 24, 3) := by decide +kernel
theorem dX6_add_91 : decode cX6_add 91 = .ok (.iload 8, 2) := by decide +kernel
theorem dX6_add_93 : decode cX6_add 93 = .ok (.aload 9, 2) := by decide +kernel
theorem dX6_add_95 : decode cX6_add 95 = .ok (.aastore, 1) := by decide +kernel
theorem dX6_add_96 : decode cX6_add 96 = .ok (.aload_n 0, 1) := by decide +kernel
theorem dX6_add_97 : decode cX6_add 97 = .ok (.dup, 1) := by decide +kernel
theorem dX6_add_98 : decode cX6_add 98 = .ok (.getfield 39, 3) := by decide +kernel
theorem dX6_add_101 : decode cX6_add 101 = .ok (.iconst 1, 1) := by decide +kernel
theorem dX6_add_102 : decode cX6_add 102 = .ok (.iadd, 1) := by decide +kernel
theorem dX6_add_103 : decode cX6_add 103 = .ok (.putfield 39, 3) := by decide +kernel
theorem dX6_add_106 : decode cX6_add 106 = .ok (.aload 7, 2) := by decide +kernel
theorem dX6_add_108 : decode cX6_add 108 = .ok (.aload 9, 2) := by decide +kernel
theorem dX6_add_110 : decode cX6_add 110 = .ok (.invokevirtual 92, 3) := by decide +kernel
theorem dX6_add_113 : decode cX6_add 113 = .ok (.aload 9, 2) := by decide +kernel
theorem dX6_add_115 : decode cX6_add 115 = .ok (.aload_n 0, 1) := by decide +kernel
theorem dX6_add_116 : decode cX6_add 116 = .ok (.getfield 45, 3) := by decide +kernel
theorem dX6_add_119 : decode cX6_add 119 = .ok (.aload_n 0, 1) := by decide +kernel
theorem dX6_add_120 : decode cX6_add 120 = .ok (.getfield 31, 3) := by decide +kernel
theorem dX6_add_123 : decode cX6_add 123 = .ok (.getfield 96, 3) := by decide +kernel
theorem dX6_add_126 : decode cX6_add 126 = .ok (.aload_n 0, 1) := by decide +kernel
theorem dX6_add_127 : decode cX6_add 127 = .ok (.getfield 9, 3) := by decide +kernel
theorem dX6_add_130 : decode cX6_add 130 = .ok (.iload_n 2, 1) := by decide +kernel
theorem dX6_add_131 : decode cX6_add 131 = .ok (.iaload, 1) := by decide +kernel
theorem dX6_add_132 : decode cX6_add 132 = .ok (.invokevirtual 99, 3) := by decide +kernel
theorem dX6_add_135 : decode cX6_add 135 = .ok (.iload 8, 2) := by decide +kernel
theorem dX6_add_137 : decode cX6_add 137 = .ok (.ireturn, 1) := by decide +kernel
abbrev rm6_add : Room := { frames := 7, cells := 10, slots := 57, locals := 112 }
theorem hd6_add : yX6_add.cls ≠ "java/lang/invoke/MethodHandle" ∧ yX6_add.cls ≠ "java/lang/invoke/VarHandle" ∧ (parseMethodDescriptor yX6_add.desc).map (fun d => d.parameters.length) = some 6 := by decide +kernel
set_option maxHeartbeats 4000000 in
set_option maxRecDepth 20000 in
theorem m6_add (l : Launch) (hl : l.stackTraces = false) (G : xG) (ρ : Nm → Nat) (this : Nm) (p1 : Int32) (p2 : Int32) (p3 : Int32) (p4 : Int32) (p5 : Int32) (p6 : Int32) (σ : PH) (Q : Int32 → PH → Prop) (Xp : String → PH → Prop) (h : w6_add this p1 p2 p3 p4 p5 p6 σ Q Xp) : xMet l yX6_add (.code yX6_add cX6_add 10 (some .int)) rm6_add G ρ σ [.ref (ρ this), .int p1, .int p2, .int p3, .int p4, .int p5, .int p6] (eIA Q) Xp := by
  refine xMet.of hl (by decide +kernel) (Nat.le_of_ble_eq_true rfl) (fun X hC hr hn htab h0 => ?_)
  have hC : xC G X "PlantServer" cX6_add 10 rm6_add := hC
  unfold w6_add at h
  refine xJ.loc (L' := [(0, .ref (ρ this)), (1, .int p1), (2, .int p2), (3, .int p3), (4, .int p4), (5, .int p5), (6, .int p6)]) rfl ?_
  refine x_aload_n hC 0 rfl dX6_add_0 ?_
  refine x_iload_n hC 1 rfl dX6_add_1 ?_
  obtain ⟨k1, h⟩ := h
  refine x_callV (n0 := this) (as := [.int p1]) (rest := []) hC (ci := 6) (r := (RX6, TX6, 9)) k1 rfl (fun l hl => m6_openSubscription l hl G ρ this p1 σ _ Xp h) q274 q276 s2 q1 q277 ⟨rfl, hd6_openSubscription⟩ (by decide) ⟨(by decide), (by decide)⟩ (by first | exact Nat.le_of_ble_eq_true rfl | (simp [rv_cat]; done) | (simp (decide := true) [rv_cat, cat_ref, cat_int]; done)) rfl dX6_add_2 (fun E σ9 hx => x_out hC h0 htab (by decide) (by decide) hx) (fun v1 σ1 ρ1 hp1 hag1 => ?_)
  obtain ⟨e9, r1, e8, h⟩ := hp1
  rw [e8, e9]
  refine xJ.nrm (k' := 1) (n' := 6) (pc' := 5) (st' := [rv ρ r1]) rfl rfl rfl rfl ?_
  refine x_astoreQ (o := r1) (L' := [(7, rv ρ r1), (0, .ref (ρ this)), (1, .int p1), (2, .int p2), (3, .int p3), (4, .int p4), (5, .int p5), (6, .int p6)]) hC dX6_add_5 (by decide) (by first | rfl | simp (decide := true) [rv_cat, cat_ref, cat_int]) ?_
  refine x_iload_n hC 3 rfl dX6_add_7 ?_
  refine x_callS (as := [.int p2]) (rest := []) hC (fun l hl => m6_checkNode l hl G ρ p2 σ1 _ Xp h) q302 q303 q1 q304 hd6_checkNode (by decide) ⟨(by decide), (by decide)⟩ (by first | exact Nat.le_of_ble_eq_true rfl | (simp [rv_cat]; done) | (simp (decide := true) [rv_cat, cat_ref, cat_int]; done)) rfl dX6_add_8 (fun E σ9 hx => x_out hC h0 htab (by decide) (by decide) hx) (fun v2 σ2 ρ2 hp2 hag2 => ?_)
  obtain ⟨e9, e8, h⟩ := hp2
  rw [e8, e9]
  refine xJ.nrm (k' := 2) (n' := 12) (pc' := 11) (st' := []) rfl rfl rfl rfl ?_
  refine x_iload_n hC 4 rfl dX6_add_11 ?_
  refine x_iconst (v := 1) hC dX6_add_12 (by decide) ?_
  refine x_bipush (v := 20) hC dX6_add_13 (by decide) ?_
  refine x_callS (as := [.int p3, .int 1, .int 20]) (rest := []) hC (fun l hl => m6_checkRange l hl G ρ p3 1 20 σ2 _ Xp h) q96 q97 q1 q98 hd6_checkRange (by decide) ⟨(by decide), (by decide)⟩ (by first | exact Nat.le_of_ble_eq_true rfl | (simp [rv_cat]; done) | (simp (decide := true) [rv_cat, cat_ref, cat_int]; done)) rfl dX6_add_15 (fun E σ9 hx => x_out hC h0 htab (by decide) (by decide) hx) (fun v3 σ3 ρ3 hp3 hag3 => ?_)
  obtain ⟨e9, e8, h⟩ := hp3
  rw [e8, e9]
  refine xJ.nrm (k' := 3) (n' := 18) (pc' := 18) (st' := []) rfl rfl rfl rfl ?_
  refine x_iload hC 5 rfl dX6_add_18 ?_
  refine x_iconst (v := 1) hC dX6_add_20 (by decide) ?_
  refine x_iconst (v := 4) hC dX6_add_21 (by decide) ?_
  refine x_callS (as := [.int p4, .int 1, .int 4]) (rest := []) hC (fun l hl => m6_checkRange l hl G ρ p4 1 4 σ3 _ Xp h) q96 q97 q1 q98 hd6_checkRange (by decide) ⟨(by decide), (by decide)⟩ (by first | exact Nat.le_of_ble_eq_true rfl | (simp [rv_cat]; done) | (simp (decide := true) [rv_cat, cat_ref, cat_int]; done)) rfl dX6_add_22 (fun E σ9 hx => x_out hC h0 htab (by decide) (by decide) hx) (fun v4 σ4 ρ4 hp4 hag4 => ?_)
  obtain ⟨e9, e8, h⟩ := hp4
  rw [e8, e9]
  refine xJ.nrm (k' := 4) (n' := 24) (pc' := 25) (st' := []) rfl rfl rfl rfl ?_
  refine x_iload hC 7 rfl dX6_add_25 ?_
  refine x_iconst (v := 0) hC dX6_add_27 (by decide) ?_
  refine x_sipush (v := 1000) hC dX6_add_28 (by decide) ?_
  refine x_callS (as := [.int p6, .int 0, .int 1000]) (rest := []) hC (fun l hl => m6_checkRange l hl G ρ p6 0 1000 σ4 _ Xp h) q96 q97 q1 q98 hd6_checkRange (by decide) ⟨(by decide), (by decide)⟩ (by first | exact Nat.le_of_ble_eq_true rfl | (simp [rv_cat]; done) | (simp (decide := true) [rv_cat, cat_ref, cat_int]; done)) rfl dX6_add_31 (fun E σ9 hx => x_out hC h0 htab (by decide) (by decide) hx) (fun v5 σ5 ρ5 hp5 hag5 => ?_)
  obtain ⟨e9, e8, h⟩ := hp5
  rw [e8, e9]
  refine xJ.nrm (k' := 5) (n' := 30) (pc' := 34) (st' := []) rfl rfl rfl rfl ?_
  refine x_aload_n hC 1 rfl dX6_add_34 ?_
  have k2 : hK σ1 this = 7 := (hag1 this (by rw [k1]; decide)).1.trans k1
  have k3 : hK σ2 this = 7 := (hag2 this (by rw [k2]; decide)).1.trans k2
  have k4 : hK σ3 this = 7 := (hag3 this (by rw [k3]; decide)).1.trans k3
  have k5 : hK σ4 this = 7 := (hag4 this (by rw [k4]; decide)).1.trans k4
  have k6 : hK σ5 this = 7 := (hag5 this (by rw [k5]; decide)).1.trans k5
  refine x_getI (n0 := this) hC (ci := 6) (T := TX6) (N := 9) (C := RX6) 6 k6 rfl rfl (by decide) rfl q55 dX6_add_35 ?_
  refine x_bipush (v := 16) hC dX6_add_38 (by decide) ?_
  refine x_icmp_lt (tgt := 53) hC dX6_add_40 (by decide) (fun c1 => ?_) (fun c1 => ?_)
  · have h := h.1 c1
    refine x_aload_n hC 1 rfl dX6_add_53 ?_
    refine x_getI (n0 := this) hC (ci := 6) (T := TX6) (N := 9) (C := RX6) 6 k6 rfl rfl (by decide) rfl q55 dX6_add_54 ?_
    refine x_istore (L' := [(8, .int (hI σ5 this 6)), (7, rv ρ r1), (0, .ref (ρ this)), (1, .int p1), (2, .int p2), (3, .int p3), (4, .int p4), (5, .int p5), (6, .int p6)]) hC dX6_add_57 (by decide) (by first | rfl | simp (decide := true) [rv_cat, cat_ref, cat_int]) ?_
    obtain ⟨n1, hz1, h⟩ := h
    obtain ⟨m1, hm1, h⟩ := h
    rw [show rv ρ r1 = Value.ref (ρ m1) from by rw [hm1]; rfl]
    obtain ⟨z1, h⟩ := h
    refine x_new (ci := 1) (T := TX1) (N := 12) (C := RX1) hC n1 hz1 rfl xdf1 q26 q307 q13 (by decide) (by decide) dX6_add_59 (fun ρ6 hρ1 => ?_)
    refine xJ.sub (L' := [(8, .int (hI σ5 this 6)), (7, .ref (ρ m1)), (0, .ref (ρ this)), (2, .int p2), (3, .int p3), (4, .int p4), (5, .int p5), (6, .int p6)]) [0, 1, 2, 4, 5, 6, 7, 8] rfl ?_
    rw [← hρ1 m1 z1, ← hρ1 this (by rw [k6]; decide)]
    refine xJ.nmH (fun σ6 e1 => ?_)
    have h := h σ6 e1
    have k7 : hK σ6 n1 = 2 := by rw [e1]; exact sN_c
    refine x_dup hC (by first | rfl | exact rv_cat) dX6_add_62 ?_
    refine x_iload hC 0 rfl dX6_add_63 ?_
    refine x_aload hC 1 rfl dX6_add_65 ?_
    refine x_iload_n hC 3 rfl dX6_add_67 ?_
    refine x_iload_n hC 4 rfl dX6_add_68 ?_
    refine x_iload hC 7 rfl dX6_add_69 ?_
    obtain ⟨n2, hz2, h⟩ := h
    obtain ⟨z2, h⟩ := h
    have k8 : hK σ6 this = 7 := by rw [e1]; exact sN_k hz1 k6 (by decide)
    refine x_new (ci := 3) (T := TX3) (N := 5) (C := RX3) hC n2 hz2 rfl xdf3 q308 q309 q14 (by decide) (by decide) dX6_add_71 (fun ρ7 hρ2 => ?_)
    refine xJ.sub (L' := [(8, .int (hI σ5 this 6)), (7, .ref (ρ6 m1)), (0, .ref (ρ6 this)), (2, .int p2), (4, .int p4), (5, .int p5)]) [0, 1, 2, 3, 5, 6] rfl ?_
    rw [← hρ2 m1 z2, ← hρ2 this (by rw [k8]; decide), ← hρ2 n1 (by rw [k7]; decide)]
    refine xJ.nmH (fun σ7 e2 => ?_)
    have h := h σ7 e2
    have k9 : hK σ7 n2 = 4 := by rw [e2]; exact sN_c
    refine x_dup hC (by first | rfl | exact rv_cat) dX6_add_74 ?_
    refine x_iload hC 4 rfl dX6_add_75 ?_
    refine x_iload hC 5 rfl dX6_add_77 ?_
    obtain ⟨z3, h⟩ := h
    have k10 : hK σ7 this = 7 := by rw [e2]; exact sN_k hz2 k8 (by decide)
    have k11 : hK σ7 n1 = 2 := by rw [e2]; exact sN_k hz2 k7 (by decide)
    refine xJ.sub (L' := [(8, .int (hI σ5 this 6)), (7, .ref (ρ7 m1)), (0, .ref (ρ7 this)), (2, .int p2)]) [0, 1, 2, 3] rfl ?_
    refine x_callI (as := [.int p4, .int p5]) (rest := [.ref (ρ7 n2), .int p6, .int p3, .int p2, .ref (ρ7 m1), .int (hI σ5 this 6), .ref (ρ7 n1), .ref (ρ7 n1)]) hC (fun l hl => m3_init l hl G ρ7 n2 p4 p5 σ7 _ h) q310 q311 q14 q312 rfl hd3_init (by decide) ⟨(by decide), (by decide)⟩ (by first | exact Nat.le_of_ble_eq_true rfl | (simp [rv_cat]; done) | (simp (decide := true) [rv_cat, cat_ref, cat_int]; done)) rfl dX6_add_79 (fun E σ9 hx => False.elim hx) (fun v6 σ8 ρ8 hp6 hag6 => ?_)
    obtain ⟨e8, h⟩ := hp6
    rw [e8]
    rw [← (hag6 m1 z3).2, ← (hag6 this (by rw [k10]; decide)).2, ← (hag6 n1 (by rw [k11]; decide)).2, ← (hag6 n2 (by rw [k9]; decide)).2]
    refine xJ.nrm (k' := 9) (n' := 55) (pc' := 82) (st' := [.ref (ρ8 n2), .int p6, .int p3, .int p2, .ref (ρ8 m1), .int (hI σ5 this 6), .ref (ρ8 n1), .ref (ρ8 n1)]) rfl rfl rfl rfl ?_
    obtain ⟨z4, h⟩ := h
    have k12 : hK σ8 this = 7 := (hag6 this (by rw [k10]; decide)).1.trans k10
    have k13 : hK σ8 n1 = 2 := (hag6 n1 (by rw [k11]; decide)).1.trans k11
    refine x_callI (as := [.int (hI σ5 this 6), .ref (ρ8 m1), .int p2, .int p3, .int p6, .ref (ρ8 n2)]) (rest := [.ref (ρ8 n1)]) hC (fun l hl => m1_init l hl G ρ8 n1 (hI σ5 this 6) m1 p2 p3 p6 n2 σ8 _ h) q336 q337 q13 q338 rfl hd1_init (by decide) ⟨(by decide), (by decide)⟩ (by first | exact Nat.le_of_ble_eq_true rfl | (simp [rv_cat]; done) | (simp (decide := true) [rv_cat, cat_ref, cat_int]; done)) rfl dX6_add_82 (fun E σ9 hx => False.elim hx) (fun v7 σ9 ρ9 hp7 hag7 => ?_)
    obtain ⟨e8, h⟩ := hp7
    rw [e8]
    rw [← (hag7 m1 z4).2, ← (hag7 this (by rw [k12]; decide)).2, ← (hag7 n1 (by rw [k13]; decide)).2]
    refine xJ.nrm (k' := 10) (n' := 57) (pc' := 85) (st' := [.ref (ρ9 n1)]) rfl rfl rfl rfl ?_
    refine x_astore (L' := [(9, .ref (ρ9 n1)), (8, .int (hI σ5 this 6)), (7, .ref (ρ9 m1)), (0, .ref (ρ9 this)), (2, .int p2)]) hC dX6_add_85 (by decide) (by first | rfl | simp (decide := true) [rv_cat, cat_ref, cat_int]) ?_
    refine x_aload_n hC 3 rfl dX6_add_87 ?_
    have k14 : hK σ9 this = 7 := (hag7 this (by rw [k12]; decide)).1.trans k12
    refine x_getR (n0 := this) hC (ci := 6) (T := TX6) (N := 9) (C := RX6) 3 k14 rfl rfl (by decide) rfl q52 dX6_add_88 ?_
    refine x_iload hC 1 rfl dX6_add_91 ?_
    refine x_aload hC 0 rfl dX6_add_93 ?_
    obtain ⟨m2, hm2, h⟩ := h
    rw [show rv ρ9 (hR σ9 this 3) = Value.ref (ρ9 m2) from by rw [hm2]; rfl]
    obtain ⟨k15, h⟩ := h
    obtain ⟨v8, h⟩ := h
    have k16 : hK σ9 n1 = 2 := (hag7 n1 (by rw [k13]; decide)).1.trans k13
    refine x_aast11 (a := m2) (o := some n1) hC (fun m hm => by cases hm; exact k16) k15 v8 dX6_add_95 ?_
    refine xJ.nmH (fun σ10 e3 => ?_)
    have h := h σ10 e3
    have r2 : hR σ10 = hR σ10 ∧ hL σ10 = hL σ9 := by rw [e3]; exact ⟨rfl, rfl⟩
    refine x_aload_n hC 3 rfl dX6_add_96 ?_
    refine x_dup hC (by first | rfl | exact rv_cat) dX6_add_97 ?_
    have k17 : hK σ10 this = 7 := by rw [e3]; exact k14
    refine x_getI (n0 := this) hC (ci := 6) (T := TX6) (N := 9) (C := RX6) 6 k17 rfl rfl (by decide) rfl q55 dX6_add_98 ?_
    refine x_iconst (v := 1) hC dX6_add_101 (by decide) ?_
    refine x_iadd hC dX6_add_102 ?_
    refine x_putI (n0 := this) hC (ci := 6) (T := TX6) (N := 9) (C := RX6) 6 k17 rfl rfl (by decide) rfl q55 rfl (tyX6_ok 6 (by decide)) dX6_add_103 ?_
    refine xJ.nmH (fun σ11 e4 => ?_)
    have h := h σ11 e4
    have r3 : hR σ11 = hR σ10 ∧ hL σ11 = hL σ9 := by rw [e4]; exact ⟨r2.1, r2.2⟩
    refine x_aload hC 2 rfl dX6_add_106 ?_
    refine x_aload hC 0 rfl dX6_add_108 ?_
    obtain ⟨k18, h⟩ := h
    refine x_callV (n0 := m1) (as := [.ref (ρ9 n1)]) (rest := []) hC (ci := 4) (r := (RX4, TX4, 14)) k18 rfl (fun l hl => m4_take l hl G ρ9 m1 n1 σ11 _ h) q394 q395 q396 q11 q397 ⟨rfl, hd4_take⟩ (by decide) ⟨(by decide), (by decide)⟩ (by first | exact Nat.le_of_ble_eq_true rfl | (simp [rv_cat]; done) | (simp (decide := true) [rv_cat, cat_ref, cat_int]; done)) rfl dX6_add_110 (fun E σ9 hx => False.elim hx) (fun v9 σ12 ρ10 hp8 hag8 => ?_)
    obtain ⟨e9, e8, h⟩ := hp8
    rw [e8, e9]
    refine xJ.nrm (k' := 10) (n' := 57) (pc' := 113) (st' := []) rfl rfl rfl rfl ?_
    refine x_aload hC 0 rfl dX6_add_113 ?_
    refine x_aload_n hC 3 rfl dX6_add_115 ?_
    have k19 : hK σ11 this = 7 := by rw [e4]; exact k17
    have k20 : hK σ12 this = 7 := (hag8 this (by rw [k19]; decide)).1.trans k19
    refine x_getI (n0 := this) hC (ci := 6) (T := TX6) (N := 9) (C := RX6) 8 k20 rfl rfl (by decide) rfl q57 dX6_add_116 ?_
    refine x_aload_n hC 3 rfl dX6_add_119 ?_
    refine x_getR (n0 := this) hC (ci := 6) (T := TX6) (N := 9) (C := RX6) 4 k20 rfl rfl (by decide) rfl q53 dX6_add_120 ?_
    obtain ⟨m3, hm3, h⟩ := h
    rw [show rv ρ9 (hR σ12 this 4) = Value.ref (ρ9 m3) from by rw [hm3]; rfl]
    obtain ⟨k21, h⟩ := h
    refine x_getI (n0 := m3) hC (ci := 0) (T := TX0) (N := 4) (C := RX0) 3 k21 rfl rfl (by decide) rfl q38 dX6_add_123 ?_
    refine x_aload_n hC 3 rfl dX6_add_126 ?_
    refine x_getR (n0 := this) hC (ci := 6) (T := TX6) (N := 9) (C := RX6) 0 k20 rfl rfl (by decide) rfl q49 dX6_add_127 ?_
    refine x_iload_n hC 4 rfl dX6_add_130 ?_
    obtain ⟨m4, hm4, h⟩ := h
    rw [show rv ρ9 (hR σ12 this 0) = Value.ref (ρ9 m4) from by rw [hm4]; rfl]
    obtain ⟨k22, h⟩ := h
    obtain ⟨v10, h⟩ := h
    refine x_iald (a := m4) hC k22 v10 dX6_add_131 ?_
    have k23 : hK σ10 n1 = 2 := by rw [e3]; exact k16
    have k24 : hK σ11 n1 = 2 := by rw [e4]; exact k23
    have k25 : hK σ12 n1 = 2 := (hag8 n1 (by rw [k24]; decide)).1.trans k24
    refine x_callV (n0 := n1) (as := [.int (hI σ12 this 8), .int (hI σ12 m3 3), .int (hI σ12 m4 (Int32.toNatClampNeg p2))]) (rest := []) hC (ci := 1) (r := (RX1, TX1, 12)) k25 rfl (fun l hl => m1_begin l hl G ρ9 n1 (hI σ12 this 8) (hI σ12 m3 3) (hI σ12 m4 (Int32.toNatClampNeg p2)) σ12 _ h) q398 q399 q400 q13 q401 ⟨rfl, hd1_begin⟩ (by decide) ⟨(by decide), (by decide)⟩ (by first | exact Nat.le_of_ble_eq_true rfl | (simp [rv_cat]; done) | (simp (decide := true) [rv_cat, cat_ref, cat_int]; done)) rfl dX6_add_132 (fun E σ9 hx => False.elim hx) (fun v11 σ13 ρ11 hp9 hag9 => ?_)
    obtain ⟨e9, e8, h⟩ := hp9
    rw [e8, e9]
    refine xJ.nrm (k' := 10) (n' := 57) (pc' := 135) (st' := []) rfl rfl rfl rfl ?_
    refine x_iload hC 1 rfl dX6_add_135 ?_
    exact x_iret hC hr dX6_add_137 (by decide) (by decide) ⟨_, rfl, h⟩
  · have h := h.2 c1
    exact x_throw (E := xIS) (text := "there were 16 items") (is := 82) hC h0 htab (by decide +kernel) (by decide +kernel) q168 q10 xhat_xIS xgood_xIS dX6_add_43 dX6_add_46 dX6_add_47 dX6_add_49 dX6_add_52 (by decide) (by first | exact Nat.le_of_ble_eq_true rfl | (simp [rv_cat]; done) | (simp (decide := true) [rv_cat, cat_ref, cat_int]; done)) (by decide) (by decide) h
