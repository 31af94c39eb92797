/-! PlantServer$History.record -/
theorem dX0_record_0 : decode cX0_record 0 = .ok (.aload_n 0, 1) := by decide +kernel
theorem dX0_record_1 : decode cX0_record 1 = .ok (.getfield 21, 3) := by decide +kernel
theorem dX0_record_4 : decode cX0_record 4 = .ok (.sipush 512, 3) := by decide +kernel
theorem dX0_record_7 : decode cX0_record 7 = .ok (.if_icmp .ge 43, 3) := by decide +kernel
theorem dX0_record_10 : decode cX0_record 10 = .ok (.aload_n 0, 1) := by decide +kernel
theorem dX0_record_11 : decode cX0_record 11 = .ok (.getfield 9, 3) := by decide +kernel
theorem dX0_record_14 : decode cX0_record 14 = .ok (.aload_n 0, 1) := by decide +kernel
theorem dX0_record_15 : decode cX0_record 15 = .ok (.getfield 21, 3) := by decide +kernel
theorem dX0_record_18 : decode cX0_record 18 = .ok (.iload_n 1, 1) := by decide +kernel
theorem dX0_record_19 : decode cX0_record 19 = .ok (.iastore, 1) := by decide +kernel
theorem dX0_record_20 : decode cX0_record 20 = .ok (.aload_n 0, 1) := by decide +kernel
theorem dX0_record_21 : decode cX0_record 21 = .ok (.getfield 15, 3) := by decide +kernel
theorem dX0_record_24 : decode cX0_record 24 = .ok (.aload_n 0, 1) := by decide +kernel
theorem dX0_record_25 : decode cX0_record 25 = .ok (.getfield 21, 3) := by decide +kernel
theorem dX0_record_28 : decode cX0_record 28 = .ok (.iload_n 2, 1) := by decide +kernel
theorem dX0_record_29 : decode cX0_record 29 = .ok (.iastore, 1) := by decide +kernel
theorem dX0_record_30 : decode cX0_record 30 = .ok (.aload_n 0, 1) := by decide +kernel
theorem dX0_record_31 : decode cX0_record 31 = .ok (.getfield 18, 3) := by decide +kernel
theorem dX0_record_34 : decode cX0_record 34 = .ok (.aload_n 0, 1) := by decide +kernel
theorem dX0_record_35 : decode cX0_record 35 = .ok (.getfield 21, 3) := by decide +kernel
theorem dX0_record_38 : decode cX0_record 38 = .ok (.iload_n 3, 1) := by decide +kernel
theorem dX0_record_39 : decode cX0_record 39 = .ok (.iastore, 1) := by decide +kernel
theorem dX0_record_40 : decode cX0_record 40 = .ok (.aload_n 0, 1) := by decide +kernel
theorem dX0_record_41 : decode cX0_record 41 = .ok (.dup, 1) := by decide +kernel
theorem dX0_record_42 : decode cX0_record 42 = .ok (.getfield 21, 3) := by decide +kernel
theorem dX0_record_45 : decode cX0_record 45 = .ok (.iconst 1, 1) := by decide +kernel
theorem dX0_record_46 : decode cX0_record 46 = .ok (.iadd, 1) := by decide +kernel
theorem dX0_record_47 : decode cX0_record 47 = .ok (.putfield 21, 3) := by decide +kernel
theorem dX0_record_50 : decode cX0_record 50 = .ok (.return_, 1) := by decide +kernel
abbrev rm0_record : Room := { frames := 0, cells := 0, slots := 0, locals := 0 }
theorem hd0_record : yX0_record.cls ≠ "java/lang/invoke/MethodHandle" ∧ yX0_record.cls ≠ "java/lang/invoke/VarHandle" ∧ (parseMethodDescriptor yX0_record.desc).map (fun d => d.parameters.length) = some 3 := by decide +kernel
set_option maxHeartbeats 4000000 in
set_option maxRecDepth 20000 in
theorem m0_record (l : Launch) (hl : l.stackTraces = false) (G : xG) (ρ : Nm → Nat) (this : Nm) (p1 : Int32) (p2 : Int32) (p3 : Int32) (σ : PH) (Q : PH → Prop) (h : w0_record this p1 p2 p3 σ Q) : xMet l yX0_record (.code yX0_record cX0_record 4 none) rm0_record G ρ σ [.ref (ρ this), .int p1, .int p2, .int p3] (eV ρ Q) xNo := by
  refine xMet.of hl (by decide +kernel) (Nat.le_of_ble_eq_true rfl) (fun X hC hr hn htab h0 => ?_)
  have hC : xC G X "PlantServer$History" cX0_record 4 rm0_record := hC
  unfold w0_record at h
  refine xJ.loc (L' := [(0, .ref (ρ this)), (1, .int p1), (2, .int p2), (3, .int p3)]) rfl ?_
  refine x_aload_n hC 0 rfl dX0_record_0 ?_
  obtain ⟨k1, h⟩ := h
  refine x_getI (n0 := this) hC (ci := 0) (T := TX0) (N := 4) (C := RX0) 3 k1 rfl rfl (by decide) rfl q37 dX0_record_1 ?_
  refine x_sipush (v := 512) hC dX0_record_4 (by decide) ?_
  refine x_icmp_ge (tgt := 50) hC dX0_record_7 (by decide) (fun c1 => ?_) (fun c1 => ?_)
  · have h := h.1 c1
    exact x_vret hC hr dX0_record_50 (by decide) (by decide) ⟨rfl, rfl, h⟩
  · have h := h.2 c1
    refine x_aload_n hC 0 rfl dX0_record_10 ?_
    refine x_getR (n0 := this) hC (ci := 0) (T := TX0) (N := 4) (C := RX0) 0 k1 rfl rfl (by decide) rfl q34 dX0_record_11 ?_
    refine x_aload_n hC 0 rfl dX0_record_14 ?_
    refine x_getI (n0 := this) hC (ci := 0) (T := TX0) (N := 4) (C := RX0) 3 k1 rfl rfl (by decide) rfl q37 dX0_record_15 ?_
    refine x_iload_n hC 1 rfl dX0_record_18 ?_
    obtain ⟨m1, hm1, h⟩ := h
    rw [show rv ρ (hR σ this 0) = Value.ref (ρ m1) from by rw [hm1]; rfl]
    obtain ⟨k2, h⟩ := h
    obtain ⟨v1, h⟩ := h
    refine x_iast (a := m1) hC k2 v1 dX0_record_19 ?_
    refine xJ.nmH (fun σ1 e1 => ?_)
    have h := h σ1 e1
    have r1 : hR σ1 = hR σ ∧ hL σ1 = hL σ := by rw [e1]; exact ⟨rfl, rfl⟩
    refine x_aload_n hC 0 rfl dX0_record_20 ?_
    have k3 : hK σ1 this = 1 := by rw [e1]; exact k1
    refine x_getR (n0 := this) hC (ci := 0) (T := TX0) (N := 4) (C := RX0) 1 k3 rfl rfl (by decide) rfl q35 dX0_record_21 ?_
    rw [r1.1]
    refine x_aload_n hC 0 rfl dX0_record_24 ?_
    refine x_getI (n0 := this) hC (ci := 0) (T := TX0) (N := 4) (C := RX0) 3 k3 rfl rfl (by decide) rfl q37 dX0_record_25 ?_
    refine x_iload_n hC 2 rfl dX0_record_28 ?_
    obtain ⟨m2, hm2, h⟩ := h
    rw [show rv ρ (hR σ this 1) = Value.ref (ρ m2) from by rw [hm2]; rfl]
    obtain ⟨k4, h⟩ := h
    obtain ⟨v2, h⟩ := h
    refine x_iast (a := m2) hC k4 (by rw [r1.2]; exact v2) dX0_record_29 ?_
    refine xJ.nmH (fun σ2 e2 => ?_)
    have h := h σ2 e2
    have r2 : hR σ2 = hR σ ∧ hL σ2 = hL σ := by rw [e2]; exact ⟨r1.1, r1.2⟩
    refine x_aload_n hC 0 rfl dX0_record_30 ?_
    have k5 : hK σ2 this = 1 := by rw [e2]; exact k3
    refine x_getR (n0 := this) hC (ci := 0) (T := TX0) (N := 4) (C := RX0) 2 k5 rfl rfl (by decide) rfl q36 dX0_record_31 ?_
    rw [r2.1]
    refine x_aload_n hC 0 rfl dX0_record_34 ?_
    refine x_getI (n0 := this) hC (ci := 0) (T := TX0) (N := 4) (C := RX0) 3 k5 rfl rfl (by decide) rfl q37 dX0_record_35 ?_
    refine x_iload_n hC 3 rfl dX0_record_38 ?_
    obtain ⟨m3, hm3, h⟩ := h
    rw [show rv ρ (hR σ this 2) = Value.ref (ρ m3) from by rw [hm3]; rfl]
    obtain ⟨k6, h⟩ := h
    obtain ⟨v3, h⟩ := h
    refine x_iast (a := m3) hC k6 (by rw [r2.2]; exact v3) dX0_record_39 ?_
    refine xJ.nmH (fun σ3 e3 => ?_)
    have h := h σ3 e3
    have r3 : hR σ3 = hR σ ∧ hL σ3 = hL σ := by rw [e3]; exact ⟨r2.1, r2.2⟩
    refine x_aload_n hC 0 rfl dX0_record_40 ?_
    refine x_dup hC (by first | rfl | exact rv_cat) dX0_record_41 ?_
    have k7 : hK σ3 this = 1 := by rw [e3]; exact k5
    refine x_getI (n0 := this) hC (ci := 0) (T := TX0) (N := 4) (C := RX0) 3 k7 rfl rfl (by decide) rfl q37 dX0_record_42 ?_
    refine x_iconst (v := 1) hC dX0_record_45 (by decide) ?_
    refine x_iadd hC dX0_record_46 ?_
    refine x_putI (n0 := this) hC (ci := 0) (T := TX0) (N := 4) (C := RX0) 3 k7 rfl rfl (by decide) rfl q37 rfl (tyX0_ok 3 (by decide)) dX0_record_47 ?_
    refine xJ.nmH (fun σ4 e4 => ?_)
    have h := h σ4 e4
    have r4 : hR σ4 = hR σ ∧ hL σ4 = hL σ := by rw [e4]; exact ⟨r3.1, r3.2⟩
    exact x_vret hC hr dX0_record_50 (by decide) (by decide) ⟨rfl, rfl, h⟩
/-! PlantServer.write -/
theorem dX6_write_0 : decode cX6_write 0 = .ok (.iload_n 1, 1) := by decide +kernel
theorem dX6_write_1 : decode cX6_write 1 = .ok (.invokestatic 48, 3) := by decide +kernel
theorem dX6_write_4 : decode cX6_write 4 = .ok (.iload_n 2, 1) := by decide +kernel
theorem dX6_write_5 : decode cX6_write 5 = .ok (.iconst 0, 1) := by decide +kernel
theorem dX6_write_6 : decode cX6_write 6 = .ok (.sipush 1000, 3) := by decide +kernel
theorem dX6_write_9 : decode cX6_write 9 = .ok (.invokestatic 52, 3) := by decide +kernel
theorem dX6_write_12 : decode cX6_write 12 = .ok (.aload_n 0, 1) := by decide +kernel
theorem dX6_write_13 : decode cX6_write 13 = .ok (.getfield 9, 3) := by decide +kernel
theorem dX6_write_16 : decode cX6_write 16 = .ok (.iload_n 1, 1) := by decide +kernel
theorem dX6_write_17 : decode cX6_write 17 = .ok (.iaload, 1) := by decide +kernel
theorem dX6_write_18 : decode cX6_write 18 = .ok (.istore_n 3, 1) := by decide +kernel
theorem dX6_write_19 : decode cX6_write 19 = .ok (.aload_n 0, 1) := by decide +kernel
theorem dX6_write_20 : decode cX6_write 20 = .ok (.getfield 9, 3) := by decide +kernel
theorem dX6_write_23 : decode cX6_write 23 = .ok (.iload_n 1, 1) := by decide +kernel
theorem dX6_write_24 : decode cX6_write 24 = .ok (.iload_n 2, 1) := by decide +kernel
theorem dX6_write_25 : decode cX6_write 25 = .ok (.iastore, 1) := by decide +kernel
theorem dX6_write_26 : decode cX6_write 26 = .ok (.aload_n 0, 1) := by decide +kernel
theorem dX6_write_27 : decode cX6_write 27 = .ok (.getfield 31, 3) := by decide +kernel
theorem dX6_write_30 : decode cX6_write 30 = .ok (.aload_n 0, 1) := by decide +kernel
theorem dX6_write_31 : decode cX6_write 31 = .ok (.getfield 45, 3) := by decide +kernel
theorem dX6_write_34 : decode cX6_write 34 = .ok (.iload_n 1, 1) := by decide +kernel
theorem dX6_write_35 : decode cX6_write 35 = .ok (.iload_n 2, 1) := by decide +kernel
theorem dX6_write_36 : decode cX6_write 36 = .ok (.invokevirtual 56, 3) := by decide +kernel
theorem dX6_write_39 : decode cX6_write 39 = .ok (.iload_n 3, 1) := by decide +kernel
theorem dX6_write_40 : decode cX6_write 40 = .ok (.ireturn, 1) := by decide +kernel
abbrev rm6_write : Room := { frames := 7, cells := 2, slots := 12, locals := 112 }
theorem hd6_write : yX6_write.cls ≠ "java/lang/invoke/MethodHandle" ∧ yX6_write.cls ≠ "java/lang/invoke/VarHandle" ∧ (parseMethodDescriptor yX6_write.desc).map (fun d => d.parameters.length) = some 2 := by decide +kernel
set_option maxHeartbeats 4000000 in
set_option maxRecDepth 20000 in
theorem m6_write (l : Launch) (hl : l.stackTraces = false) (G : xG) (ρ : Nm → Nat) (this : Nm) (p1 : Int32) (p2 : Int32) (σ : PH) (Q : Int32 → PH → Prop) (Xp : String → PH → Prop) (h : w6_write this p1 p2 σ Q Xp) : xMet l yX6_write (.code yX6_write cX6_write 4 (some .int)) rm6_write G ρ σ [.ref (ρ this), .int p1, .int p2] (eI ρ Q) Xp := by
  refine xMet.of hl (by decide +kernel) (Nat.le_of_ble_eq_true rfl) (fun X hC hr hn htab h0 => ?_)
  have hC : xC G X "PlantServer" cX6_write 4 rm6_write := hC
  unfold w6_write at h
  refine xJ.loc (L' := [(0, .ref (ρ this)), (1, .int p1), (2, .int p2)]) rfl ?_
  refine x_iload_n hC 1 rfl dX6_write_0 ?_
  refine x_callS (as := [.int p1]) (rest := []) hC (fun l hl => m6_checkNode l hl G ρ p1 σ _ Xp h) q302 q303 q1 q304 hd6_checkNode (by decide) ⟨(by decide), (by decide)⟩ (by first | exact Nat.le_of_ble_eq_true rfl | (simp [rv_cat]; done) | (simp (decide := true) [rv_cat, cat_ref, cat_int]; done)) rfl dX6_write_1 (fun E σ9 hx => x_out hC h0 htab (by decide) (by decide) hx) (fun v1 σ1 ρ1 hp1 hag1 => ?_)
  obtain ⟨e9, e8, h⟩ := hp1
  rw [e8, e9]
  refine xJ.nrm (k' := 1) (n' := 6) (pc' := 4) (st' := []) rfl rfl rfl rfl ?_
  refine x_iload_n hC 2 rfl dX6_write_4 ?_
  refine x_iconst (v := 0) hC dX6_write_5 (by decide) ?_
  refine x_sipush (v := 1000) hC dX6_write_6 (by decide) ?_
  refine x_callS (as := [.int p2, .int 0, .int 1000]) (rest := []) hC (fun l hl => m6_checkRange l hl G ρ p2 0 1000 σ1 _ Xp h) q96 q97 q1 q98 hd6_checkRange (by decide) ⟨(by decide), (by decide)⟩ (by first | exact Nat.le_of_ble_eq_true rfl | (simp [rv_cat]; done) | (simp (decide := true) [rv_cat, cat_ref, cat_int]; done)) rfl dX6_write_9 (fun E σ9 hx => x_out hC h0 htab (by decide) (by decide) hx) (fun v2 σ2 ρ2 hp2 hag2 => ?_)
  obtain ⟨e9, e8, h⟩ := hp2
  rw [e8, e9]
  refine xJ.nrm (k' := 2) (n' := 12) (pc' := 12) (st' := []) rfl rfl rfl rfl ?_
  refine x_aload_n hC 0 rfl dX6_write_12 ?_
  obtain ⟨k1, h⟩ := h
  refine x_getR (n0 := this) hC (ci := 6) (T := TX6) (N := 9) (C := RX6) 0 k1 rfl rfl (by decide) rfl q49 dX6_write_13 ?_
  refine x_iload_n hC 1 rfl dX6_write_16 ?_
  obtain ⟨m1, hm1, h⟩ := h
  rw [show rv ρ (hR σ2 this 0) = Value.ref (ρ m1) from by rw [hm1]; rfl]
  obtain ⟨k2, h⟩ := h
  obtain ⟨v3, h⟩ := h
  refine x_iald (a := m1) hC k2 v3 dX6_write_17 ?_
  refine x_istore_n (L' := [(3, .int (hI σ2 m1 (Int32.toNatClampNeg p1))), (0, .ref (ρ this)), (1, .int p1), (2, .int p2)]) hC dX6_write_18 (by decide) (by first | rfl | simp (decide := true) [rv_cat, cat_ref, cat_int]) ?_
  refine x_aload_n hC 1 rfl dX6_write_19 ?_
  refine x_getR (n0 := this) hC (ci := 6) (T := TX6) (N := 9) (C := RX6) 0 k1 rfl rfl (by decide) rfl q49 dX6_write_20 ?_
  rw [show rv ρ (hR σ2 this 0) = Value.ref (ρ m1) from by rw [hm1]; rfl]
  refine x_iload_n hC 2 rfl dX6_write_23 ?_
  refine x_iload_n hC 3 rfl dX6_write_24 ?_
  refine x_iast (a := m1) hC k2 v3 dX6_write_25 ?_
  refine xJ.nmH (fun σ3 e1 => ?_)
  have h := h σ3 e1
  have r1 : hR σ3 = hR σ2 ∧ hL σ3 = hL σ2 := by rw [e1]; exact ⟨rfl, rfl⟩
  refine x_aload_n hC 1 rfl dX6_write_26 ?_
  have k3 : hK σ3 this = 7 := by rw [e1]; exact k1
  refine x_getR (n0 := this) hC (ci := 6) (T := TX6) (N := 9) (C := RX6) 4 k3 rfl rfl (by decide) rfl q53 dX6_write_27 ?_
  rw [r1.1]
  refine x_aload_n hC 1 rfl dX6_write_30 ?_
  refine x_getI (n0 := this) hC (ci := 6) (T := TX6) (N := 9) (C := RX6) 8 k3 rfl rfl (by decide) rfl q57 dX6_write_31 ?_
  refine x_iload_n hC 2 rfl dX6_write_34 ?_
  refine x_iload_n hC 3 rfl dX6_write_35 ?_
  obtain ⟨m2, hm2, h⟩ := h
  rw [show rv ρ (hR σ2 this 4) = Value.ref (ρ m2) from by rw [hm2]; rfl]
  obtain ⟨k4, h⟩ := h
  refine x_callV (n0 := m2) (as := [.int (hI σ3 this 8), .int p1, .int p2]) (rest := []) hC (ci := 0) (r := (RX0, TX0, 4)) k4 rfl (fun l hl => m0_record l hl G ρ m2 (hI σ3 this 8) p1 p2 σ3 _ h) q468 q469 q470 q2 q471 ⟨rfl, hd0_record⟩ (by decide) ⟨(by decide), (by decide)⟩ (by first | exact Nat.le_of_ble_eq_true rfl | (simp [rv_cat]; done) | (simp (decide := true) [rv_cat, cat_ref, cat_int]; done)) rfl dX6_write_36 (fun E σ9 hx => False.elim hx) (fun v4 σ4 ρ3 hp3 hag3 => ?_)
  obtain ⟨e9, e8, h⟩ := hp3
  rw [e8, e9]
  refine xJ.nrm (k' := 2) (n' := 12) (pc' := 39) (st' := []) rfl rfl rfl rfl ?_
  refine x_iload_n hC 0 rfl dX6_write_39 ?_
  exact x_iret hC hr dX6_write_40 (by decide) (by decide) ⟨rfl, _, rfl, h⟩
/-! PlantServerLaw.write -/
theorem dL_write_0 : decode cL_write 0 = .ok (.aload_n 0, 1) := by decide +kernel
theorem dL_write_1 : decode cL_write 1 = .ok (.iload_n 1, 1) := by decide +kernel
theorem dL_write_2 : decode cL_write 2 = .ok (.iload_n 2, 1) := by decide +kernel
theorem dL_write_3 : decode cL_write 3 = .ok (.invokevirtual 8, 3) := by decide +kernel
theorem dL_write_6 : decode cL_write 6 = .ok (.istore_n 3, 1) := by decide +kernel
theorem dL_write_7 : decode cL_write 7 = .ok (.goto 15, 3) := by decide +kernel
theorem dL_write_10 : decode cL_write 10 = .ok (.astore 4, 2) := by decide +kernel
theorem dL_write_12 : decode cL_write 12 = .ok (.sipush (-7100), 3) := by decide +kernel
theorem dL_write_15 : decode cL_write 15 = .ok (.ireturn, 1) := by decide +kernel
theorem dL_write_16 : decode cL_write 16 = .ok (.astore 4, 2) := by decide +kernel
theorem dL_write_18 : decode cL_write 18 = .ok (.sipush (-7200), 3) := by decide +kernel
theorem dL_write_21 : decode cL_write 21 = .ok (.ireturn, 1) := by decide +kernel
theorem dL_write_22 : decode cL_write 22 = .ok (.iload_n 3, 1) := by decide +kernel
theorem dL_write_23 : decode cL_write 23 = .ok (.ireturn, 1) := by decide +kernel
abbrev rmL_write : Room := { frames := 8, cells := 2, slots := 12, locals := 135 }
theorem hdL_write : yL_write.cls ≠ "java/lang/invoke/MethodHandle" ∧ yL_write.cls ≠ "java/lang/invoke/VarHandle" ∧ (parseMethodDescriptor yL_write.desc).map (fun d => d.parameters.length) = some 3 := by decide +kernel
set_option maxHeartbeats 4000000 in
set_option maxRecDepth 20000 in
theorem mL_write (l : Launch) (hl : l.stackTraces = false) (G : xG) (ρ : Nm → Nat) (a1 : Nm) (p2 : Int32) (p3 : Int32) (σ : PH) (Q : Int32 → PH → Prop) (h : wL_write a1 p2 p3 σ Q) : xMet l yL_write (.codeWith yL_write cL_write 5 (some .int) [(0, 7, 10, 14), (0, 7, 16, 16)]) rmL_write G ρ σ [.ref (ρ a1), .int p2, .int p3] (eI ρ Q) xNo := by
  refine xMet.ofW hl (by decide +kernel) (Nat.le_of_ble_eq_true rfl) (fun X hC hr hn htab h0 => ?_)
  have hC : xC G X "PlantServerLaw" cL_write 5 rmL_write := hC
  unfold wL_write at h
  refine xJ.loc (L' := [(0, .ref (ρ a1)), (1, .int p2), (2, .int p3)]) rfl ?_
  refine x_aload_n hC 0 rfl dL_write_0 ?_
  refine x_iload_n hC 1 rfl dL_write_1 ?_
  refine x_iload_n hC 2 rfl dL_write_2 ?_
  obtain ⟨k1, h⟩ := h
  refine x_callV (n0 := a1) (as := [.int p2, .int p3]) (rest := []) hC (ci := 6) (r := (RX6, TX6, 9)) k1 rfl (fun l hl => m6_write l hl G ρ a1 p2 p3 σ _ _ h) q464 q465 q466 q1 q467 ⟨rfl, hd6_write⟩ (by decide) ⟨(by decide), (by decide)⟩ (by first | exact Nat.le_of_ble_eq_true rfl | (simp [rv_cat]; done) | (simp (decide := true) [rv_cat, cat_ref, cat_int]; done)) rfl dL_write_3 (fun E σ2 hx => ?_) (fun v1 σ1 ρ1 hp1 hag1 => ?_)
  · have hE9 := hx.2.2
    rcases hE9 with he | he
    · have h := hx.1 he
      subst he
      refine x_catch hC [] [(0, 7, 16, 16)] (0, 7, 10, 14) htab (by intro z hz; simp at hz) (by decide) (by decide) q269 xcast_xIO (fun qx1 => ?_)
      refine xJ.nrm (k' := 2) (n' := 12) (pc' := 10) (st' := [.ref qx1]) rfl rfl rfl rfl ?_
      refine x_astore (L' := [(4, .ref qx1), (0, .ref (ρ a1)), (1, .int p2), (2, .int p3)]) hC dL_write_10 (by decide) (by first | rfl | simp (decide := true) [rv_cat, cat_ref, cat_int]) ?_
      refine x_sipush (v := (-7100)) hC dL_write_12 (by decide) ?_
      exact x_iret hC hr dL_write_15 (by decide) (by decide) ⟨rfl, _, rfl, h⟩
    · have h := hx.2.1 he
      subst he
      refine x_catch hC [(0, 7, 10, 14)] [] (0, 7, 16, 16) htab (xpass1 (E := xIA) q269 (by decide) (by decide +kernel)) (by decide) (by decide) q90 xcast_xIA (fun qx2 => ?_)
      refine xJ.nrm (k' := 2) (n' := 12) (pc' := 16) (st' := [.ref qx2]) rfl rfl rfl rfl ?_
      refine x_astore (L' := [(4, .ref qx2), (0, .ref (ρ a1)), (1, .int p2), (2, .int p3)]) hC dL_write_16 (by decide) (by first | rfl | simp (decide := true) [rv_cat, cat_ref, cat_int]) ?_
      refine x_sipush (v := (-7200)) hC dL_write_18 (by decide) ?_
      exact x_iret hC hr dL_write_21 (by decide) (by decide) ⟨rfl, _, rfl, h⟩
  · obtain ⟨e9, r1, e8, h⟩ := hp1
    rw [e8, e9]
    refine xJ.nrm (k' := 2) (n' := 12) (pc' := 6) (st' := [.int r1]) rfl rfl rfl rfl ?_
    refine x_istore_n (L' := [(3, .int r1), (0, .ref (ρ a1)), (1, .int p2), (2, .int p3)]) hC dL_write_6 (by decide) (by first | rfl | simp (decide := true) [rv_cat, cat_ref, cat_int]) ?_
    refine x_goto (tgt := 22) hC dL_write_7 (by decide) ?_
    refine x_iload_n hC 0 rfl dL_write_22 ?_
    exact x_iret hC hr dL_write_23 (by decide) (by decide) ⟨rfl, _, rfl, h⟩
/-! PlantServer.request -/
theorem dX6_request_0 : decode cX6_request 0 = .ok (.aload_n 0, 1) := by decide +kernel
theorem dX6_request_1 : decode cX6_request 1 = .ok (.getfield 42, 3) := by decide +kernel
theorem dX6_request_4 : decode cX6_request 4 = .ok (.bipush 10, 2) := by decide +kernel
theorem dX6_request_6 : decode cX6_request 6 = .ok (.if_icmp .lt 13, 3) := by decide +kernel
theorem dX6_request_9 : decode cX6_request 9 = .ok (.new 59, 3) := by decide +kernel
theorem dX6_request_12 : decode cX6_request 12 = .ok (.dup, 1) := by decide +kernel
theorem dX6_request_13 : decode cX6_request 13 = .ok (.ldc 127, 2) := by decide +kernel
theorem dX6_request_15 : decode cX6_request 15 = .ok (.invokespecial 63, 3) := by decide +kernel
theorem dX6_request_18 : decode cX6_request 18 = .ok (.athrow, 1) := by decide +kernel
theorem dX6_request_19 : decode cX6_request 19 = .ok (.aload_n 0, 1) := by decide +kernel
theorem dX6_request_20 : decode cX6_request 20 = .ok (.dup, 1) := by decide +kernel
theorem dX6_request_21 : decode cX6_request 21 = .ok (.getfield 42, 3) := by decide +kernel
theorem dX6_request_24 : decode cX6_request 24 = .ok (.iconst 1, 1) := by decide +kernel
theorem dX6_request_25 : decode cX6_request 25 = .ok (.iadd, 1) := by decide +kernel
theorem dX6_request_26 : decode cX6_request 26 = .ok (.putfield 42, 3) := by decide +kernel
theorem dX6_request_29 : decode cX6_request 29 = .ok (.aload_n 0, 1) := by decide +kernel
theorem dX6_request_30 : decode cX6_request 30 = .ok (.getfield 42, 3) := by decide +kernel
theorem dX6_request_33 : decode cX6_request 33 = .ok (.ireturn, 1) := by decide +kernel
abbrev rm6_request : Room := { frames := 6, cells := 1, slots := 6, locals := 90 }
theorem hd6_request : yX6_request.cls ≠ "java/lang/invoke/MethodHandle" ∧ yX6_request.cls ≠ "java/lang/invoke/VarHandle" ∧ (parseMethodDescriptor yX6_request.desc).map (fun d => d.parameters.length) = some 0 := by decide +kernel
set_option maxHeartbeats 4000000 in
set_option maxRecDepth 20000 in
theorem m6_request (l : Launch) (hl : l.stackTraces = false) (G : xG) (ρ : Nm → Nat) (this : Nm) (σ : PH) (Q : Int32 → PH → Prop) (Xp : String → PH → Prop) (h : w6_request this σ Q Xp) : xMet l yX6_request (.code yX6_request cX6_request 1 (some .int)) rm6_request G ρ σ [.ref (ρ this)] (eI ρ Q) Xp := by
  refine xMet.of hl (by decide +kernel) (Nat.le_of_ble_eq_true rfl) (fun X hC hr hn htab h0 => ?_)
  have hC : xC G X "PlantServer" cX6_request 1 rm6_request := hC
  unfold w6_request at h
  refine xJ.loc (L' := [(0, .ref (ρ this))]) rfl ?_
  refine x_aload_n hC 0 rfl dX6_request_0 ?_
  obtain ⟨k1, h⟩ := h
  refine x_getI (n0 := this) hC (ci := 6) (T := TX6) (N := 9) (C := RX6) 7 k1 rfl rfl (by decide) rfl q56 dX6_request_1 ?_
  refine x_bipush (v := 10) hC dX6_request_4 (by decide) ?_
  refine x_icmp_lt (tgt := 19) hC dX6_request_6 (by decide) (fun c1 => ?_) (fun c1 => ?_)
  · have h := h.1 c1
    refine x_aload_n hC 0 rfl dX6_request_19 ?_
    refine x_dup hC (by first | rfl | exact rv_cat) dX6_request_20 ?_
    refine x_getI (n0 := this) hC (ci := 6) (T := TX6) (N := 9) (C := RX6) 7 k1 rfl rfl (by decide) rfl q56 dX6_request_21 ?_
    refine x_iconst (v := 1) hC dX6_request_24 (by decide) ?_
    refine x_iadd hC dX6_request_25 ?_
    refine x_putI (n0 := this) hC (ci := 6) (T := TX6) (N := 9) (C := RX6) 7 k1 rfl rfl (by decide) rfl q56 rfl (tyX6_ok 7 (by decide)) dX6_request_26 ?_
    refine xJ.nmH (fun σ1 e1 => ?_)
    have h := h σ1 e1
    have r1 : hR σ1 = hR σ ∧ hL σ1 = hL σ := by rw [e1]; exact ⟨rfl, rfl⟩
    refine x_aload_n hC 0 rfl dX6_request_29 ?_
    have k2 : hK σ1 this = 7 := by rw [e1]; exact k1
    refine x_getI (n0 := this) hC (ci := 6) (T := TX6) (N := 9) (C := RX6) 7 k2 rfl rfl (by decide) rfl q56 dX6_request_30 ?_
    exact x_iret hC hr dX6_request_33 (by decide) (by decide) ⟨rfl, _, rfl, h⟩
  · have h := h.2 c1
    exact x_throw (E := xIS) (text := "10 requests wait") (is := 127) hC h0 htab (by decide +kernel) (by decide +kernel) q168 q10 xhat_xIS xgood_xIS dX6_request_9 dX6_request_12 dX6_request_13 dX6_request_15 dX6_request_18 (by decide) (by first | exact Nat.le_of_ble_eq_true rfl | (simp [rv_cat]; done) | (simp (decide := true) [rv_cat, cat_ref, cat_int]; done)) (by decide) (by decide) h
/-! PlantServerLaw.request -/
theorem dL_request_0 : decode cL_request 0 = .ok (.aload_n 0, 1) := by decide +kernel
theorem dL_request_1 : decode cL_request 1 = .ok (.invokevirtual 40, 3) := by decide +kernel
theorem dL_request_4 : decode cL_request 4 = .ok (.istore_n 1, 1) := by decide +kernel
theorem dL_request_5 : decode cL_request 5 = .ok (.goto 8, 3) := by decide +kernel
theorem dL_request_8 : decode cL_request 8 = .ok (.astore_n 2, 1) := by decide +kernel
theorem dL_request_9 : decode cL_request 9 = .ok (.sipush (-7300), 3) := by decide +kernel
theorem dL_request_12 : decode cL_request 12 = .ok (.ireturn, 1) := by decide +kernel
theorem dL_request_13 : decode cL_request 13 = .ok (.iload_n 1, 1) := by decide +kernel
theorem dL_request_14 : decode cL_request 14 = .ok (.ireturn, 1) := by decide +kernel
abbrev rmL_request : Room := { frames := 7, cells := 1, slots := 6, locals := 110 }
theorem hdL_request : yL_request.cls ≠ "java/lang/invoke/MethodHandle" ∧ yL_request.cls ≠ "java/lang/invoke/VarHandle" ∧ (parseMethodDescriptor yL_request.desc).map (fun d => d.parameters.length) = some 1 := by decide +kernel
set_option maxHeartbeats 4000000 in
set_option maxRecDepth 20000 in
theorem mL_request (l : Launch) (hl : l.stackTraces = false) (G : xG) (ρ : Nm → Nat) (a1 : Nm) (σ : PH) (Q : Int32 → PH → Prop) (h : wL_request a1 σ Q) : xMet l yL_request (.codeWith yL_request cL_request 3 (some .int) [(0, 5, 8, 22)]) rmL_request G ρ σ [.ref (ρ a1)] (eI ρ Q) xNo := by
  refine xMet.ofW hl (by decide +kernel) (Nat.le_of_ble_eq_true rfl) (fun X hC hr hn htab h0 => ?_)
  have hC : xC G X "PlantServerLaw" cL_request 3 rmL_request := hC
  unfold wL_request at h
  refine xJ.loc (L' := [(0, .ref (ρ a1))]) rfl ?_
  refine x_aload_n hC 0 rfl dL_request_0 ?_
  obtain ⟨k1, h⟩ := h
  refine x_callV (n0 := a1) (as := []) (rest := []) hC (ci := 6) (r := (RX6, TX6, 9)) k1 rfl (fun l hl => m6_request l hl G ρ a1 σ _ _ h) q475 q476 q477 q1 q478 ⟨rfl, hd6_request⟩ (by decide) ⟨(by decide), (by decide)⟩ (by first | exact Nat.le_of_ble_eq_true rfl | (simp [rv_cat]; done) | (simp (decide := true) [rv_cat, cat_ref, cat_int]; done)) rfl dL_request_1 (fun E σ2 hx => ?_) (fun v1 σ1 ρ1 hp1 hag1 => ?_)
  · have hE9 := hx.2
    have he := hE9
    have h := hx.1 he
    subst he
    refine x_catch hC [] [] (0, 5, 8, 22) htab (by intro z hz; simp at hz) (by decide) (by decide) q91 xcast_xIS (fun qx1 => ?_)
    refine xJ.nrm (k' := 1) (n' := 6) (pc' := 8) (st' := [.ref qx1]) rfl rfl rfl rfl ?_
    refine x_astore_n (L' := [(2, .ref qx1), (0, .ref (ρ a1))]) hC dL_request_8 (by decide) (by first | rfl | simp (decide := true) [rv_cat, cat_ref, cat_int]) ?_
    refine x_sipush (v := (-7300)) hC dL_request_9 (by decide) ?_
    exact x_iret hC hr dL_request_12 (by decide) (by decide) ⟨rfl, _, rfl, h⟩
  · obtain ⟨e9, r1, e8, h⟩ := hp1
    rw [e8, e9]
    refine xJ.nrm (k' := 1) (n' := 6) (pc' := 4) (st' := [.int r1]) rfl rfl rfl rfl ?_
    refine x_istore_n (L' := [(1, .int r1), (0, .ref (ρ a1))]) hC dL_request_4 (by decide) (by first | rfl | simp (decide := true) [rv_cat, cat_ref, cat_int]) ?_
    refine x_goto (tgt := 13) hC dL_request_5 (by decide) ?_
    refine x_iload_n hC 0 rfl dL_request_13 ?_
    exact x_iret hC hr dL_request_14 (by decide) (by decide) ⟨rfl, _, rfl, h⟩
/-! PlantServer$Subscription.forget -/
theorem dX4_forget_0 : decode cX4_forget 0 = .ok (.iload_n 1, 1) := by decide +kernel
theorem dX4_forget_1 : decode cX4_forget 1 = .ok (.ifCond .lt 11, 3) := by decide +kernel
theorem dX4_forget_4 : decode cX4_forget 4 = .ok (.iload_n 1, 1) := by decide +kernel
theorem dX4_forget_5 : decode cX4_forget 5 = .ok (.aload_n 0, 1) := by decide +kernel
theorem dX4_forget_6 : decode cX4_forget 6 = .ok (.getfield 31, 3) := by decide +kernel
theorem dX4_forget_9 : decode cX4_forget 9 = .ok (.if_icmp .lt 4, 3) := by decide +kernel
theorem dX4_forget_12 : decode cX4_forget 12 = .ok (.return_, 1) := by decide +kernel
theorem dX4_forget_13 : decode cX4_forget 13 = .ok (.aload_n 0, 1) := by decide +kernel
theorem dX4_forget_14 : decode cX4_forget 14 = .ok (.getfield 19, 3) := by decide +kernel
theorem dX4_forget_17 : decode cX4_forget 17 = .ok (.iload_n 1, 1) := by decide +kernel
theorem dX4_forget_18 : decode cX4_forget 18 = .ok (.aaload, 1) := by decide +kernel
theorem dX4_forget_19 : decode cX4_forget 19 = .ok (.astore_n 2, 1) := by decide +kernel
theorem dX4_forget_20 : decode cX4_forget 20 = .ok (.iload_n 1, 1) := by decide +kernel
theorem dX4_forget_21 : decode cX4_forget 21 = .ok (.iconst 1, 1) := by decide +kernel
theorem dX4_forget_22 : decode cX4_forget 22 = .ok (.iadd, 1) := by decide +kernel
theorem dX4_forget_23 : decode cX4_forget 23 = .ok (.istore_n 3, 1) := by decide +kernel
theorem dX4_forget_24 : decode cX4_forget 24 = .ok (.iload_n 3, 1) := by decide +kernel
theorem dX4_forget_25 : decode cX4_forget 25 = .ok (.aload_n 0, 1) := by decide +kernel
theorem dX4_forget_26 : decode cX4_forget 26 = .ok (.getfield 31, 3) := by decide +kernel
theorem dX4_forget_29 : decode cX4_forget 29 = .ok (.if_icmp .ge 23, 3) := by decide +kernel
theorem dX4_forget_32 : decode cX4_forget 32 = .ok (.aload_n 0, 1) := by decide +kernel
theorem dX4_forget_33 : decode cX4_forget 33 = .ok (.getfield 19, 3) := by decide +kernel
theorem dX4_forget_36 : decode cX4_forget 36 = .ok (.iload_n 3, 1) := by decide +kernel
theorem dX4_forget_37 : decode cX4_forget 37 = .ok (.iconst 1, 1) := by decide +kernel
theorem dX4_forget_38 : decode cX4_forget 38 = .ok (.isub, 1) := by decide +kernel
theorem dX4_forget_39 : decode cX4_forget 39 = .ok (.aload_n 0, 1) := by decide +kernel
theorem dX4_forget_40 : decode cX4_forget 40 = .ok (.getfield 19, 3) := by decide +kernel
theorem dX4_forget_43 : decode cX4_forget 43 = .ok (.iload_n 3, 1) := by decide +kernel
theorem dX4_forget_44 : decode cX4_forget 44 = .ok (.aaload, 1) := by decide +kernel
theorem dX4_forget_45 : decode cX4_forget 45 = .ok (.aastore, 1) := by decide +kernel
theorem dX4_forget_46 : decode cX4_forget 46 = .ok (.iinc 3 1, 3) := by decide +kernel
theorem dX4_forget_49 : decode cX4_forget 49 = .ok (.goto (-25), 3) := by decide +kernel
theorem dX4_forget_52 : decode cX4_forget 52 = .ok (.aload_n 0, 1) := by decide +kernel
theorem dX4_forget_53 : decode cX4_forget 53 = .ok (.dup, 1) := by decide +kernel
theorem dX4_forget_54 : decode cX4_forget 54 = .ok (.getfield 31, 3) := by decide +kernel
theorem dX4_forget_57 : decode cX4_forget 57 = .ok (.iconst 1, 1) := by decide +kernel
theorem dX4_forget_58 : decode cX4_forget 58 = .ok (.isub, 1) := by decide +kernel
theorem dX4_forget_59 : decode cX4_forget 59 = .ok (.putfield 31, 3) := by decide +kernel
theorem dX4_forget_62 : decode cX4_forget 62 = .ok (.aload_n 0, 1) := by decide +kernel
theorem dX4_forget_63 : decode cX4_forget 63 = .ok (.getfield 19, 3) := by decide +kernel
theorem dX4_forget_66 : decode cX4_forget 66 = .ok (.aload_n 0, 1) := by decide +kernel
theorem dX4_forget_67 : decode cX4_forget 67 = .ok (.getfield 31, 3) := by decide +kernel
theorem dX4_forget_70 : decode cX4_forget 70 = .ok (.aload_n 2, 1) := by decide +kernel
theorem dX4_forget_71 : decode cX4_forget 71 = .ok (.aastore, 1) := by decide +kernel
theorem dX4_forget_72 : decode cX4_forget 72 = .ok (.return_, 1) := by decide +kernel
abbrev rm4_forget : Room := { frames := 0, cells := 0, slots := 0, locals := 0 }
theorem hd4_forget : yX4_forget.cls ≠ "java/lang/invoke/MethodHandle" ∧ yX4_forget.cls ≠ "java/lang/invoke/VarHandle" ∧ (parseMethodDescriptor yX4_forget.desc).map (fun d => d.parameters.length) = some 1 := by decide +kernel
set_option maxHeartbeats 4000000 in
set_option maxRecDepth 20000 in
theorem ml4_forget_24 {G : xG} {X : xX} (hC : xC G X "PlantServer$Subscription" cX4_forget 4 rm4_forget) (hr : xRt X none) (htab : xTab X []) (this : Nm) (p1 : Int32) (m2 : Nm) {ρ : Nm → Nat} (h0 : xR0 X ρ) (k n : Nat) (hk1 : k ≤ 0) (hk2 : n ≤ 0) (K : Int32 → PH → Prop) (Q : PH → Prop) (Xp : String → PH → Prop) : ∀ (f24 : Nat) (x24_3 : Int32) (τ24 : PH), l4_forget_24 this p1 m2 K Q f24 x24_3 τ24 → (∀ (x24_3 : Int32) (τ24 : PH), K x24_3 τ24 → xJ G X (xT X (eV ρ Q) Xp G rm4_forget) 4 ρ τ24 k n 52 [(0, .ref (ρ this)), (2, .ref (ρ m2)), (3, .int x24_3)] []) → xJ G X (xT X (eV ρ Q) Xp G rm4_forget) 4 ρ τ24 k n 24 [(0, .ref (ρ this)), (2, .ref (ρ m2)), (3, .int x24_3)] [] := by
  intro f24
  induction f24 with
  | zero => intro x24_3 τ24 h hKK; unfold l4_forget_24 at h; exact h.elim
  | succ f24 ih =>
    intro x24_3 τ24 h hKK
    unfold l4_forget_24 at h
    refine x_iload_n hC 2 rfl dX4_forget_24 ?_
    refine x_aload_n hC 0 rfl dX4_forget_25 ?_
    obtain ⟨k3, h⟩ := h
    refine x_getI (n0 := this) hC (ci := 4) (T := TX4) (N := 14) (C := RX4) 9 k3 rfl rfl (by decide) rfl q219 dX4_forget_26 ?_
    refine x_icmp_ge (tgt := 52) hC dX4_forget_29 (by decide) (fun c3 => ?_) (fun c3 => ?_)
    · have h := h.1 c3
      exact hKK _ _ h
    · have h := h.2 c3
      refine x_aload_n hC 0 rfl dX4_forget_32 ?_
      refine x_getR (n0 := this) hC (ci := 4) (T := TX4) (N := 14) (C := RX4) 6 k3 rfl rfl (by decide) rfl q214 dX4_forget_33 ?_
      refine x_iload_n hC 2 rfl dX4_forget_36 ?_
      refine x_iconst (v := 1) hC dX4_forget_37 (by decide) ?_
      refine x_isub hC dX4_forget_38 ?_
      refine x_aload_n hC 0 rfl dX4_forget_39 ?_
      refine x_getR (n0 := this) hC (ci := 4) (T := TX4) (N := 14) (C := RX4) 6 k3 rfl rfl (by decide) rfl q214 dX4_forget_40 ?_
      refine x_iload_n hC 2 rfl dX4_forget_43 ?_
      obtain ⟨m3, hm3, h⟩ := h
      rw [show rv ρ (hR τ24 this 6) = Value.ref (ρ m3) from by rw [hm3]; rfl]
      obtain ⟨k4, h⟩ := h
      obtain ⟨v2, h⟩ := h
      refine x_aald12 (a := m3) hC k4 v2 dX4_forget_44 ?_
      obtain ⟨v3, h⟩ := h
      obtain ⟨ho1, h⟩ := h
      refine x_aast12 (a := m3) (o := hR τ24 m3 (Int32.toNatClampNeg x24_3)) hC ho1 k4 v3 dX4_forget_45 ?_
      refine xJ.nmH (fun σ1 e1 => ?_)
      have h := h σ1 e1
      have r1 : hR σ1 = hR σ1 ∧ hL σ1 = hL τ24 := by rw [e1]; exact ⟨rfl, rfl⟩
      refine x_iinc (v' := x24_3 + 1) (L' := [(3, .int (x24_3 + 1)), (0, .ref (ρ this)), (2, .ref (ρ m2))]) hC 2 rfl dX4_forget_46 rfl (by decide) (by first | rfl | simp (decide := true) [rv_cat, cat_ref, cat_int]) ?_
      refine x_goto (tgt := 24) hC dX4_forget_49 (by decide) ?_
      refine xJ.sub (L' := [(0, .ref (ρ this)), (2, .ref (ρ m2)), (3, .int (x24_3 + 1))]) [1, 2, 0] rfl ?_
      exact ih _ _ h hKK
set_option maxHeartbeats 4000000 in
set_option maxRecDepth 20000 in
theorem m4_forget (l : Launch) (hl : l.stackTraces = false) (G : xG) (ρ : Nm → Nat) (this : Nm) (p1 : Int32) (σ : PH) (Q : PH → Prop) (h : w4_forget this p1 σ Q) : xMet l yX4_forget (.code yX4_forget cX4_forget 4 none) rm4_forget G ρ σ [.ref (ρ this), .int p1] (eV ρ Q) xNo := by
  refine xMet.of hl (by decide +kernel) (Nat.le_of_ble_eq_true rfl) (fun X hC hr hn htab h0 => ?_)
  have hC : xC G X "PlantServer$Subscription" cX4_forget 4 rm4_forget := hC
  unfold w4_forget at h
  refine xJ.loc (L' := [(0, .ref (ρ this)), (1, .int p1)]) rfl ?_
  refine x_iload_n hC 1 rfl dX4_forget_0 ?_
  refine x_if_lt (tgt := 12) hC dX4_forget_1 (by decide) (fun c1 => ?_) (fun c1 => ?_)
  · have h := h.1 c1
    exact x_vret hC hr dX4_forget_12 (by decide) (by decide) ⟨rfl, rfl, h⟩
  · have h := h.2 c1
    refine x_iload_n hC 1 rfl dX4_forget_4 ?_
    refine x_aload_n hC 0 rfl dX4_forget_5 ?_
    obtain ⟨k1, h⟩ := h
    refine x_getI (n0 := this) hC (ci := 4) (T := TX4) (N := 14) (C := RX4) 9 k1 rfl rfl (by decide) rfl q219 dX4_forget_6 ?_
    refine x_icmp_lt (tgt := 13) hC dX4_forget_9 (by decide) (fun c2 => ?_) (fun c2 => ?_)
    · have h := h.1 c2
      refine x_aload_n hC 0 rfl dX4_forget_13 ?_
      refine x_getR (n0 := this) hC (ci := 4) (T := TX4) (N := 14) (C := RX4) 6 k1 rfl rfl (by decide) rfl q214 dX4_forget_14 ?_
      refine x_iload_n hC 1 rfl dX4_forget_17 ?_
      obtain ⟨m1, hm1, h⟩ := h
      rw [show rv ρ (hR σ this 6) = Value.ref (ρ m1) from by rw [hm1]; rfl]
      obtain ⟨k2, h⟩ := h
      obtain ⟨v1, h⟩ := h
      refine x_aald12 (a := m1) hC k2 v1 dX4_forget_18 ?_
      refine x_astore_nQ (o := hR σ m1 (Int32.toNatClampNeg p1)) (L' := [(2, rv ρ (hR σ m1 (Int32.toNatClampNeg p1))), (0, .ref (ρ this)), (1, .int p1)]) hC dX4_forget_19 (by decide) (by first | rfl | simp (decide := true) [rv_cat, cat_ref, cat_int]) ?_
      refine x_iload_n hC 2 rfl dX4_forget_20 ?_
      refine x_iconst (v := 1) hC dX4_forget_21 (by decide) ?_
      refine x_iadd hC dX4_forget_22 ?_
      refine x_istore_n (L' := [(3, .int (p1 + 1)), (2, rv ρ (hR σ m1 (Int32.toNatClampNeg p1))), (0, .ref (ρ this)), (1, .int p1)]) hC dX4_forget_23 (by decide) (by first | rfl | simp (decide := true) [rv_cat, cat_ref, cat_int]) ?_
      refine xJ.sub (L' := [(0, .ref (ρ this)), (2, rv ρ (hR σ m1 (Int32.toNatClampNeg p1))), (3, .int (p1 + 1))]) [2, 1, 0] rfl ?_
      obtain ⟨m2, hm2, h⟩ := h
      rw [show rv ρ (hR σ m1 (Int32.toNatClampNeg p1)) = Value.ref (ρ m2) from by rw [hm2]; rfl]
      obtain ⟨f24, h⟩ := h
      refine ml4_forget_24 hC hr htab this p1 m2 h0 (0) (0) (by decide) (by decide) _ Q _ f24 _ _ h (fun y1 τ1 h => ?_)
      refine x_aload_n hC 0 rfl dX4_forget_52 ?_
      refine x_dup hC (by first | rfl | exact rv_cat) dX4_forget_53 ?_
      obtain ⟨k5, h⟩ := h
      refine x_getI (n0 := this) hC (ci := 4) (T := TX4) (N := 14) (C := RX4) 9 k5 rfl rfl (by decide) rfl q219 dX4_forget_54 ?_
      refine x_iconst (v := 1) hC dX4_forget_57 (by decide) ?_
      refine x_isub hC dX4_forget_58 ?_
      refine x_putI (n0 := this) hC (ci := 4) (T := TX4) (N := 14) (C := RX4) 9 k5 rfl rfl (by decide) rfl q219 rfl (tyX4_ok 9 (by decide)) dX4_forget_59 ?_
      refine xJ.nmH (fun σ2 e2 => ?_)
      have h := h σ2 e2
      have r2 : hR σ2 = hR τ1 ∧ hL σ2 = hL τ1 := by rw [e2]; exact ⟨rfl, rfl⟩
      refine x_aload_n hC 0 rfl dX4_forget_62 ?_
      have k6 : hK σ2 this = 5 := by rw [e2]; exact k5
      refine x_getR (n0 := this) hC (ci := 4) (T := TX4) (N := 14) (C := RX4) 6 k6 rfl rfl (by decide) rfl q214 dX4_forget_63 ?_
      rw [r2.1]
      refine x_aload_n hC 0 rfl dX4_forget_66 ?_
      refine x_getI (n0 := this) hC (ci := 4) (T := TX4) (N := 14) (C := RX4) 9 k6 rfl rfl (by decide) rfl q219 dX4_forget_67 ?_
      refine x_aload_n hC 1 rfl dX4_forget_70 ?_
      obtain ⟨m4, hm4, h⟩ := h
      rw [show rv ρ (hR τ1 this 6) = Value.ref (ρ m4) from by rw [hm4]; rfl]
      obtain ⟨k7, h⟩ := h
      obtain ⟨v4, h⟩ := h
      obtain ⟨k8, h⟩ := h
      refine x_aast12 (a := m4) (o := some m2) hC (fun m hm => by cases hm; exact k8) k7 (by rw [r2.2]; exact v4) dX4_forget_71 ?_
      refine xJ.nmH (fun σ3 e3 => ?_)
      have h := h σ3 e3
      have r3 : hR σ3 = hR σ3 ∧ hL σ3 = hL τ1 := by rw [e3]; exact ⟨rfl, r2.2⟩
      exact x_vret hC hr dX4_forget_72 (by decide) (by decide) ⟨rfl, rfl, h⟩
    · have h := h.2 c2
      exact x_vret hC hr dX4_forget_12 (by decide) (by decide) ⟨rfl, rfl, h⟩
/-! PlantServer.acknowledge -/
theorem dX6_acknowledge_0 : decode cX6_acknowledge 0 = .ok (.aload_n 0, 1) := by decide +kernel
theorem dX6_acknowledge_1 : decode cX6_acknowledge 1 = .ok (.iload_n 1, 1) := by decide +kernel
theorem dX6_acknowledge_2 : decode cX6_acknowledge 2 = .ok (.invokevirtual 73, 3) := by decide +kernel
theorem dX6_acknowledge_5 : decode cX6_acknowledge 5 = .ok (.astore_n 3, 1) := by decide +kernel
theorem dX6_acknowledge_6 : decode cX6_acknowledge 6 = .ok (.aload_n 3, 1) := by decide +kernel
theorem dX6_acknowledge_7 : decode cX6_acknowledge 7 = .ok (.iload_n 2, 1) := by decide +kernel
theorem dX6_acknowledge_8 : decode cX6_acknowledge 8 = .ok (.invokevirtual 138, 3) := by decide +kernel
theorem dX6_acknowledge_11 : decode cX6_acknowledge 11 = .ok (.istore 4, 2) := by decide +kernel
theorem dX6_acknowledge_13 : decode cX6_acknowledge 13 = .ok (.iload 4, 2) := by decide +kernel
theorem dX6_acknowledge_15 : decode cX6_acknowledge 15 = .ok (.iconst (-1), 1) := by decide +kernel
theorem dX6_acknowledge_16 : decode cX6_acknowledge 16 = .ok (.if_icmp .ne 5, 3) := by decide +kernel
theorem dX6_acknowledge_19 : decode cX6_acknowledge 19 = .ok (.iconst 0, 1) := by decide +kernel
theorem dX6_acknowledge_20 : decode cX6_acknowledge 20 = .ok (.ireturn, 1) := by decide +kernel
theorem dX6_acknowledge_21 : decode cX6_acknowledge 21 = .ok (.aload_n 3, 1) := by decide +kernel
theorem dX6_acknowledge_22 : decode cX6_acknowledge 22 = .ok (.iload 4, 2) := by decide +kernel
theorem dX6_acknowledge_24 : decode cX6_acknowledge 24 = .ok (.invokevirtual 142, 3) := by decide +kernel
theorem dX6_acknowledge_27 : decode cX6_acknowledge 27 = .ok (.iconst 1, 1) := by decide +kernel
theorem dX6_acknowledge_28 : decode cX6_acknowledge 28 = .ok (.ireturn, 1) := by decide +kernel
abbrev rm6_acknowledge : Room := { frames := 7, cells := 1, slots := 6, locals := 112 }
theorem hd6_acknowledge : yX6_acknowledge.cls ≠ "java/lang/invoke/MethodHandle" ∧ yX6_acknowledge.cls ≠ "java/lang/invoke/VarHandle" ∧ (parseMethodDescriptor yX6_acknowledge.desc).map (fun d => d.parameters.length) = some 2 := by decide +kernel
set_option maxHeartbeats 4000000 in
set_option maxRecDepth 20000 in
theorem m6_acknowledge (l : Launch) (hl : l.stackTraces = false) (G : xG) (ρ : Nm → Nat) (this : Nm) (p1 : Int32) (p2 : Int32) (σ : PH) (Q : Int32 → PH → Prop) (Xp : String → PH → Prop) (h : w6_acknowledge this p1 p2 σ Q Xp) : xMet l yX6_acknowledge (.code yX6_acknowledge cX6_acknowledge 5 (some .boolean)) rm6_acknowledge G ρ σ [.ref (ρ this), .int p1, .int p2] (eI ρ Q) Xp := by
  refine xMet.of hl (by decide +kernel) (Nat.le_of_ble_eq_true rfl) (fun X hC hr hn htab h0 => ?_)
  have hC : xC G X "PlantServer" cX6_acknowledge 5 rm6_acknowledge := hC
  unfold w6_acknowledge at h
  refine xJ.loc (L' := [(0, .ref (ρ this)), (1, .int p1), (2, .int p2)]) rfl ?_
  refine x_aload_n hC 0 rfl dX6_acknowledge_0 ?_
  refine x_iload_n hC 1 rfl dX6_acknowledge_1 ?_
  obtain ⟨k1, h⟩ := h
  refine x_callV (n0 := this) (as := [.int p1]) (rest := []) hC (ci := 6) (r := (RX6, TX6, 9)) k1 rfl (fun l hl => m6_openSubscription l hl G ρ this p1 σ _ Xp h) q274 q276 s2 q1 q277 ⟨rfl, hd6_openSubscription⟩ (by decide) ⟨(by decide), (by decide)⟩ (by first | exact Nat.le_of_ble_eq_true rfl | (simp [rv_cat]; done) | (simp (decide := true) [rv_cat, cat_ref, cat_int]; done)) rfl dX6_acknowledge_2 (fun E σ9 hx => x_out hC h0 htab (by decide) (by decide) hx) (fun v1 σ1 ρ1 hp1 hag1 => ?_)
  obtain ⟨e9, r1, e8, h⟩ := hp1
  rw [e8, e9]
  refine xJ.nrm (k' := 1) (n' := 6) (pc' := 5) (st' := [rv ρ r1]) rfl rfl rfl rfl ?_
  refine x_astore_nQ (o := r1) (L' := [(3, rv ρ r1), (0, .ref (ρ this)), (1, .int p1), (2, .int p2)]) hC dX6_acknowledge_5 (by decide) (by first | rfl | simp (decide := true) [rv_cat, cat_ref, cat_int]) ?_
  refine x_aload_nQ (o := r1) hC 0 rfl dX6_acknowledge_6 ?_
  refine x_iload_n hC 3 rfl dX6_acknowledge_7 ?_
  obtain ⟨m1, hm1, h⟩ := h
  rw [show rv ρ r1 = Value.ref (ρ m1) from by rw [hm1]; rfl]
  obtain ⟨k2, h⟩ := h
  refine x_callV (n0 := m1) (as := [.int p2]) (rest := []) hC (ci := 4) (r := (RX4, TX4, 14)) k2 rfl (fun l hl => m4_placeOf l hl G ρ m1 p2 σ1 _ h) q487 q488 q489 q11 q490 ⟨rfl, hd4_placeOf⟩ (by decide) ⟨(by decide), (by decide)⟩ (by first | exact Nat.le_of_ble_eq_true rfl | (simp [rv_cat]; done) | (simp (decide := true) [rv_cat, cat_ref, cat_int]; done)) rfl dX6_acknowledge_8 (fun E σ9 hx => False.elim hx) (fun v2 σ2 ρ2 hp2 hag2 => ?_)
  obtain ⟨e9, r2, e8, h⟩ := hp2
  rw [e8, e9]
  refine xJ.nrm (k' := 1) (n' := 6) (pc' := 11) (st' := [.int r2]) rfl rfl rfl rfl ?_
  refine x_istore (L' := [(4, .int r2), (3, .ref (ρ m1)), (0, .ref (ρ this)), (1, .int p1), (2, .int p2)]) hC dX6_acknowledge_11 (by decide) (by first | rfl | simp (decide := true) [rv_cat, cat_ref, cat_int]) ?_
  refine x_iload hC 0 rfl dX6_acknowledge_13 ?_
  refine x_iconst (v := (-1)) hC dX6_acknowledge_15 (by decide) ?_
  refine x_icmp_ne (tgt := 21) hC dX6_acknowledge_16 (by decide) (fun c1 => ?_) (fun c1 => ?_)
  · have h := h.1 c1
    refine x_aload_n hC 1 rfl dX6_acknowledge_21 ?_
    refine x_iload hC 0 rfl dX6_acknowledge_22 ?_
    have k3 : hK σ2 m1 = 5 := (hag2 m1 (by rw [k2]; decide)).1.trans k2
    refine x_callV (n0 := m1) (as := [.int r2]) (rest := []) hC (ci := 4) (r := (RX4, TX4, 14)) k3 rfl (fun l hl => m4_forget l hl G ρ m1 r2 σ2 _ h) q491 q492 q493 q11 q494 ⟨rfl, hd4_forget⟩ (by decide) ⟨(by decide), (by decide)⟩ (by first | exact Nat.le_of_ble_eq_true rfl | (simp [rv_cat]; done) | (simp (decide := true) [rv_cat, cat_ref, cat_int]; done)) rfl dX6_acknowledge_24 (fun E σ9 hx => False.elim hx) (fun v3 σ3 ρ3 hp3 hag3 => ?_)
    obtain ⟨e9, e8, h⟩ := hp3
    rw [e8, e9]
    refine xJ.nrm (k' := 1) (n' := 6) (pc' := 27) (st' := []) rfl rfl rfl rfl ?_
    refine x_iconst (v := 1) hC dX6_acknowledge_27 (by decide) ?_
    exact x_zret hC hr zb1 dX6_acknowledge_28 (by decide) (by decide) ⟨rfl, _, rfl, h⟩
  · have h := h.2 c1
    refine x_iconst (v := 0) hC dX6_acknowledge_19 (by decide) ?_
    exact x_zret hC hr zb0 dX6_acknowledge_20 (by decide) (by decide) ⟨rfl, _, rfl, h⟩
/-! PlantServerLaw.acknowledge -/
theorem dL_acknowledge_0 : decode cL_acknowledge 0 = .ok (.aload_n 0, 1) := by decide +kernel
theorem dL_acknowledge_1 : decode cL_acknowledge 1 = .ok (.iload_n 1, 1) := by decide +kernel
theorem dL_acknowledge_2 : decode cL_acknowledge 2 = .ok (.iload_n 2, 1) := by decide +kernel
theorem dL_acknowledge_3 : decode cL_acknowledge 3 = .ok (.invokevirtual 47, 3) := by decide +kernel
theorem dL_acknowledge_6 : decode cL_acknowledge 6 = .ok (.istore_n 3, 1) := by decide +kernel
theorem dL_acknowledge_7 : decode cL_acknowledge 7 = .ok (.goto 9, 3) := by decide +kernel
theorem dL_acknowledge_10 : decode cL_acknowledge 10 = .ok (.astore 4, 2) := by decide +kernel
theorem dL_acknowledge_12 : decode cL_acknowledge 12 = .ok (.sipush (-7100), 3) := by decide +kernel
theorem dL_acknowledge_15 : decode cL_acknowledge 15 = .ok (.ireturn, 1) := by decide +kernel
theorem dL_acknowledge_16 : decode cL_acknowledge 16 = .ok (.iload_n 3, 1) := by decide +kernel
theorem dL_acknowledge_17 : decode cL_acknowledge 17 = .ok (.ifCond .eq 7, 3) := by decide +kernel
theorem dL_acknowledge_20 : decode cL_acknowledge 20 = .ok (.iconst 1, 1) := by decide +kernel
theorem dL_acknowledge_21 : decode cL_acknowledge 21 = .ok (.goto 4, 3) := by decide +kernel
theorem dL_acknowledge_24 : decode cL_acknowledge 24 = .ok (.iconst 0, 1) := by decide +kernel
theorem dL_acknowledge_25 : decode cL_acknowledge 25 = .ok (.ireturn, 1) := by decide +kernel
abbrev rmL_acknowledge : Room := { frames := 8, cells := 1, slots := 6, locals := 136 }
theorem hdL_acknowledge : yL_acknowledge.cls ≠ "java/lang/invoke/MethodHandle" ∧ yL_acknowledge.cls ≠ "java/lang/invoke/VarHandle" ∧ (parseMethodDescriptor yL_acknowledge.desc).map (fun d => d.parameters.length) = some 3 := by decide +kernel
set_option maxHeartbeats 4000000 in
set_option maxRecDepth 20000 in
theorem mL_acknowledge (l : Launch) (hl : l.stackTraces = false) (G : xG) (ρ : Nm → Nat) (a1 : Nm) (p2 : Int32) (p3 : Int32) (σ : PH) (Q : Int32 → PH → Prop) (h : wL_acknowledge a1 p2 p3 σ Q) : xMet l yL_acknowledge (.codeWith yL_acknowledge cL_acknowledge 5 (some .int) [(0, 7, 10, 14)]) rmL_acknowledge G ρ σ [.ref (ρ a1), .int p2, .int p3] (eI ρ Q) xNo := by
  refine xMet.ofW hl (by decide +kernel) (Nat.le_of_ble_eq_true rfl) (fun X hC hr hn htab h0 => ?_)
  have hC : xC G X "PlantServerLaw" cL_acknowledge 5 rmL_acknowledge := hC
  unfold wL_acknowledge at h
  refine xJ.loc (L' := [(0, .ref (ρ a1)), (1, .int p2), (2, .int p3)]) rfl ?_
  refine x_aload_n hC 0 rfl dL_acknowledge_0 ?_
  refine x_iload_n hC 1 rfl dL_acknowledge_1 ?_
  refine x_iload_n hC 2 rfl dL_acknowledge_2 ?_
  obtain ⟨k1, h⟩ := h
  refine x_callV (n0 := a1) (as := [.int p2, .int p3]) (rest := []) hC (ci := 6) (r := (RX6, TX6, 9)) k1 rfl (fun l hl => m6_acknowledge l hl G ρ a1 p2 p3 σ _ _ h) q483 q484 q485 q1 q486 ⟨rfl, hd6_acknowledge⟩ (by decide) ⟨(by decide), (by decide)⟩ (by first | exact Nat.le_of_ble_eq_true rfl | (simp [rv_cat]; done) | (simp (decide := true) [rv_cat, cat_ref, cat_int]; done)) rfl dL_acknowledge_3 (fun E σ2 hx => ?_) (fun v1 σ1 ρ1 hp1 hag1 => ?_)
  · have hE9 := hx.2
    have he := hE9
    have h := hx.1 he
    subst he
    refine x_catch hC [] [] (0, 7, 10, 14) htab (by intro z hz; simp at hz) (by decide) (by decide) q269 xcast_xIO (fun qx1 => ?_)
    refine xJ.nrm (k' := 1) (n' := 6) (pc' := 10) (st' := [.ref qx1]) rfl rfl rfl rfl ?_
    refine x_astore (L' := [(4, .ref qx1), (0, .ref (ρ a1)), (1, .int p2), (2, .int p3)]) hC dL_acknowledge_10 (by decide) (by first | rfl | simp (decide := true) [rv_cat, cat_ref, cat_int]) ?_
    refine x_sipush (v := (-7100)) hC dL_acknowledge_12 (by decide) ?_
    exact x_iret hC hr dL_acknowledge_15 (by decide) (by decide) ⟨rfl, _, rfl, h⟩
  · obtain ⟨e9, r1, e8, h⟩ := hp1
    rw [e8, e9]
    refine xJ.nrm (k' := 1) (n' := 6) (pc' := 6) (st' := [.int r1]) rfl rfl rfl rfl ?_
    refine x_istore_n (L' := [(3, .int r1), (0, .ref (ρ a1)), (1, .int p2), (2, .int p3)]) hC dL_acknowledge_6 (by decide) (by first | rfl | simp (decide := true) [rv_cat, cat_ref, cat_int]) ?_
    refine x_goto (tgt := 16) hC dL_acknowledge_7 (by decide) ?_
    refine x_iload_n hC 0 rfl dL_acknowledge_16 ?_
    refine x_if_eq (tgt := 24) hC dL_acknowledge_17 (by decide) (fun c1 => ?_) (fun c1 => ?_)
    · have h := h.1 c1
      refine x_iconst (v := 0) hC dL_acknowledge_24 (by decide) ?_
      exact x_iret hC hr dL_acknowledge_25 (by decide) (by decide) ⟨rfl, _, rfl, h⟩
    · have h := h.2 c1
      refine x_iconst (v := 1) hC dL_acknowledge_20 (by decide) ?_
      refine x_goto (tgt := 25) hC dL_acknowledge_21 (by decide) ?_
      exact x_iret hC hr dL_acknowledge_25 (by decide) (by decide) ⟨rfl, _, rfl, h⟩
/-! PlantServer$Timer.countTick -/
theorem dX5_countTick_0 : decode cX5_countTick 0 = .ok (.aload_n 0, 1) := by decide +kernel
theorem dX5_countTick_1 : decode cX5_countTick 1 = .ok (.dup, 1) := by decide +kernel
theorem dX5_countTick_2 : decode cX5_countTick 2 = .ok (.getfield 13, 3) := by decide +kernel
theorem dX5_countTick_5 : decode cX5_countTick 5 = .ok (.iconst 1, 1) := by decide +kernel
theorem dX5_countTick_6 : decode cX5_countTick 6 = .ok (.isub, 1) := by decide +kernel
theorem dX5_countTick_7 : decode cX5_countTick 7 = .ok (.putfield 13, 3) := by decide +kernel
theorem dX5_countTick_10 : decode cX5_countTick 10 = .ok (.aload_n 0, 1) := by decide +kernel
theorem dX5_countTick_11 : decode cX5_countTick 11 = .ok (.getfield 13, 3) := by decide +kernel
theorem dX5_countTick_14 : decode cX5_countTick 14 = .ok (.ifCond .le 5, 3) := by decide +kernel
theorem dX5_countTick_17 : decode cX5_countTick 17 = .ok (.iconst 0, 1) := by decide +kernel
theorem dX5_countTick_18 : decode cX5_countTick 18 = .ok (.ireturn, 1) := by decide +kernel
theorem dX5_countTick_19 : decode cX5_countTick 19 = .ok (.aload_n 0, 1) := by decide +kernel
theorem dX5_countTick_20 : decode cX5_countTick 20 = .ok (.aload_n 0, 1) := by decide +kernel
theorem dX5_countTick_21 : decode cX5_countTick 21 = .ok (.getfield 7, 3) := by decide +kernel
theorem dX5_countTick_24 : decode cX5_countTick 24 = .ok (.putfield 13, 3) := by decide +kernel
theorem dX5_countTick_27 : decode cX5_countTick 27 = .ok (.iconst 1, 1) := by decide +kernel
theorem dX5_countTick_28 : decode cX5_countTick 28 = .ok (.ireturn, 1) := by decide +kernel
abbrev rm5_countTick : Room := { frames := 0, cells := 0, slots := 0, locals := 0 }
theorem hd5_countTick : yX5_countTick.cls ≠ "java/lang/invoke/MethodHandle" ∧ yX5_countTick.cls ≠ "java/lang/invoke/VarHandle" ∧ (parseMethodDescriptor yX5_countTick.desc).map (fun d => d.parameters.length) = some 0 := by decide +kernel
set_option maxHeartbeats 4000000 in
set_option maxRecDepth 20000 in
theorem m5_countTick (l : Launch) (hl : l.stackTraces = false) (G : xG) (ρ : Nm → Nat) (this : Nm) (σ : PH) (Q : Int32 → PH → Prop) (h : w5_countTick this σ Q) : xMet l yX5_countTick (.code yX5_countTick cX5_countTick 1 (some .boolean)) rm5_countTick G ρ σ [.ref (ρ this)] (eI ρ Q) xNo := by
  refine xMet.of hl (by decide +kernel) (Nat.le_of_ble_eq_true rfl) (fun X hC hr hn htab h0 => ?_)
  have hC : xC G X "PlantServer$Timer" cX5_countTick 1 rm5_countTick := hC
  unfold w5_countTick at h
  refine xJ.loc (L' := [(0, .ref (ρ this))]) rfl ?_
  refine x_aload_n hC 0 rfl dX5_countTick_0 ?_
  refine x_dup hC (by first | rfl | exact rv_cat) dX5_countTick_1 ?_
  obtain ⟨k1, h⟩ := h
  refine x_getI (n0 := this) hC (ci := 5) (T := TX5) (N := 2) (C := RX5) 1 k1 rfl rfl (by decide) rfl q200 dX5_countTick_2 ?_
  refine x_iconst (v := 1) hC dX5_countTick_5 (by decide) ?_
  refine x_isub hC dX5_countTick_6 ?_
  refine x_putI (n0 := this) hC (ci := 5) (T := TX5) (N := 2) (C := RX5) 1 k1 rfl rfl (by decide) rfl q200 rfl (tyX5_ok 1 (by decide)) dX5_countTick_7 ?_
  refine xJ.nmH (fun σ1 e1 => ?_)
  have h := h σ1 e1
  have r1 : hR σ1 = hR σ ∧ hL σ1 = hL σ := by rw [e1]; exact ⟨rfl, rfl⟩
  refine x_aload_n hC 0 rfl dX5_countTick_10 ?_
  have k2 : hK σ1 this = 6 := by rw [e1]; exact k1
  refine x_getI (n0 := this) hC (ci := 5) (T := TX5) (N := 2) (C := RX5) 1 k2 rfl rfl (by decide) rfl q200 dX5_countTick_11 ?_
  refine x_if_le (tgt := 19) hC dX5_countTick_14 (by decide) (fun c1 => ?_) (fun c1 => ?_)
  · have h := h.1 c1
    refine x_aload_n hC 0 rfl dX5_countTick_19 ?_
    refine x_aload_n hC 0 rfl dX5_countTick_20 ?_
    refine x_getI (n0 := this) hC (ci := 5) (T := TX5) (N := 2) (C := RX5) 0 k2 rfl rfl (by decide) rfl q198 dX5_countTick_21 ?_
    refine x_putI (n0 := this) hC (ci := 5) (T := TX5) (N := 2) (C := RX5) 1 k2 rfl rfl (by decide) rfl q200 rfl (tyX5_ok 1 (by decide)) dX5_countTick_24 ?_
    refine xJ.nmH (fun σ2 e2 => ?_)
    have h := h σ2 e2
    have r2 : hR σ2 = hR σ ∧ hL σ2 = hL σ := by rw [e2]; exact ⟨r1.1, r1.2⟩
    refine x_iconst (v := 1) hC dX5_countTick_27 (by decide) ?_
    exact x_zret hC hr zb1 dX5_countTick_28 (by decide) (by decide) ⟨rfl, _, rfl, h⟩
  · have h := h.2 c1
    refine x_iconst (v := 0) hC dX5_countTick_17 (by decide) ?_
    exact x_zret hC hr zb0 dX5_countTick_18 (by decide) (by decide) ⟨rfl, _, rfl, h⟩
/-! PlantServer$Item.sample -/
theorem dX1_sample_0 : decode cX1_sample 0 = .ok (.aload_n 0, 1) := by decide +kernel
theorem dX1_sample_1 : decode cX1_sample 1 = .ok (.iload_n 1, 1) := by decide +kernel
theorem dX1_sample_2 : decode cX1_sample 2 = .ok (.aload_n 0, 1) := by decide +kernel
theorem dX1_sample_3 : decode cX1_sample 3 = .ok (.getfield 20, 3) := by decide +kernel
theorem dX1_sample_6 : decode cX1_sample 6 = .ok (.invokevirtual 58, 3) := by decide +kernel
theorem dX1_sample_9 : decode cX1_sample 9 = .ok (.ifCond .eq 8, 3) := by decide +kernel
theorem dX1_sample_12 : decode cX1_sample 12 = .ok (.aload_n 0, 1) := by decide +kernel
theorem dX1_sample_13 : decode cX1_sample 13 = .ok (.iload_n 1, 1) := by decide +kernel
theorem dX1_sample_14 : decode cX1_sample 14 = .ok (.invokevirtual 55, 3) := by decide +kernel
theorem dX1_sample_17 : decode cX1_sample 17 = .ok (.return_, 1) := by decide +kernel
abbrev rm1_sample : Room := { frames := 3, cells := 0, slots := 0, locals := 64 }
theorem hd1_sample : yX1_sample.cls ≠ "java/lang/invoke/MethodHandle" ∧ yX1_sample.cls ≠ "java/lang/invoke/VarHandle" ∧ (parseMethodDescriptor yX1_sample.desc).map (fun d => d.parameters.length) = some 1 := by decide +kernel
set_option maxHeartbeats 4000000 in
set_option maxRecDepth 20000 in
theorem m1_sample (l : Launch) (hl : l.stackTraces = false) (G : xG) (ρ : Nm → Nat) (this : Nm) (p1 : Int32) (σ : PH) (Q : PH → Prop) (h : w1_sample this p1 σ Q) : xMet l yX1_sample (.code yX1_sample cX1_sample 2 none) rm1_sample G ρ σ [.ref (ρ this), .int p1] (eV ρ Q) xNo := by
  refine xMet.of hl (by decide +kernel) (Nat.le_of_ble_eq_true rfl) (fun X hC hr hn htab h0 => ?_)
  have hC : xC G X "PlantServer$Item" cX1_sample 2 rm1_sample := hC
  unfold w1_sample at h
  refine xJ.loc (L' := [(0, .ref (ρ this)), (1, .int p1)]) rfl ?_
  refine x_aload_n hC 0 rfl dX1_sample_0 ?_
  refine x_iload_n hC 1 rfl dX1_sample_1 ?_
  refine x_aload_n hC 0 rfl dX1_sample_2 ?_
  obtain ⟨k1, h⟩ := h
  refine x_getI (n0 := this) hC (ci := 1) (T := TX1) (N := 12) (C := RX1) 9 k1 rfl rfl (by decide) rfl q364 dX1_sample_3 ?_
  refine x_callV (n0 := this) (as := [.int p1, .int (hI σ this 9)]) (rest := []) hC (ci := 1) (r := (RX1, TX1, 12)) k1 rfl (fun l hl => m1_leavesBand l hl G ρ this p1 (hI σ this 9) σ _ h) q519 q520 q521 q13 q522 ⟨rfl, hd1_leavesBand⟩ (by decide) ⟨(by decide), (by decide)⟩ (by first | exact Nat.le_of_ble_eq_true rfl | (simp [rv_cat]; done) | (simp (decide := true) [rv_cat, cat_ref, cat_int]; done)) rfl dX1_sample_6 (fun E σ9 hx => False.elim hx) (fun v1 σ1 ρ1 hp1 hag1 => ?_)
  obtain ⟨e9, r1, e8, h⟩ := hp1
  rw [e8, e9]
  refine xJ.nrm (k' := 0) (n' := 0) (pc' := 9) (st' := [.int r1]) rfl rfl rfl rfl ?_
  refine x_if_eq (tgt := 17) hC dX1_sample_9 (by decide) (fun c1 => ?_) (fun c1 => ?_)
  · have h := h.1 c1
    exact x_vret hC hr dX1_sample_17 (by decide) (by decide) ⟨rfl, rfl, h⟩
  · have h := h.2 c1
    refine x_aload_n hC 0 rfl dX1_sample_12 ?_
    refine x_iload_n hC 1 rfl dX1_sample_13 ?_
    have k2 : hK σ1 this = 2 := (hag1 this (by rw [k1]; decide)).1.trans k1
    refine x_callV (n0 := this) (as := [.int p1]) (rest := []) hC (ci := 1) (r := (RX1, TX1, 12)) k2 rfl (fun l hl => m1_enqueue l hl G ρ this p1 σ1 _ h) q402 q404 s3 q13 q405 ⟨rfl, hd1_enqueue⟩ (by decide) ⟨(by decide), (by decide)⟩ (by first | exact Nat.le_of_ble_eq_true rfl | (simp [rv_cat]; done) | (simp (decide := true) [rv_cat, cat_ref, cat_int]; done)) rfl dX1_sample_14 (fun E σ9 hx => False.elim hx) (fun v2 σ2 ρ2 hp2 hag2 => ?_)
    obtain ⟨e9, e8, h⟩ := hp2
    rw [e8, e9]
    refine xJ.nrm (k' := 0) (n' := 0) (pc' := 17) (st' := []) rfl rfl rfl rfl ?_
    exact x_vret hC hr dX1_sample_17 (by decide) (by decide) ⟨rfl, rfl, h⟩
/-! PlantServer.sampleItems -/
theorem dX6_sampleItems_0 : decode cX6_sampleItems 0 = .ok (.iconst 0, 1) := by decide +kernel
theorem dX6_sampleItems_1 : decode cX6_sampleItems 1 = .ok (.istore_n 1, 1) := by decide +kernel
theorem dX6_sampleItems_2 : decode cX6_sampleItems 2 = .ok (.iload_n 1, 1) := by decide +kernel
theorem dX6_sampleItems_3 : decode cX6_sampleItems 3 = .ok (.aload_n 0, 1) := by decide +kernel
theorem dX6_sampleItems_4 : decode cX6_sampleItems 4 = .ok (.getfield 39, 3) := by decide +kernel
theorem dX6_sampleItems_7 : decode cX6_sampleItems 7 = .ok (.if_icmp .ge 53, 3) := by decide +kernel
theorem dX6_sampleItems_10 : decode cX6_sampleItems 10 = .ok (.aload_n 0, 1) := by decide +kernel
theorem dX6_sampleItems_11 : decode cX6_sampleItems 11 = .ok (.getfield 24, 3) := by decide +kernel
theorem dX6_sampleItems_14 : decode cX6_sampleItems 14 = .ok (.iload_n 1, 1) := by decide +kernel
theorem dX6_sampleItems_15 : decode cX6_sampleItems 15 = .ok (.aaload, 1) := by decide +kernel
theorem dX6_sampleItems_16 : decode cX6_sampleItems 16 = .ok (.astore_n 2, 1) := by decide +kernel
theorem dX6_sampleItems_17 : decode cX6_sampleItems 17 = .ok (.aload_n 2, 1) := by decide +kernel
theorem dX6_sampleItems_18 : decode cX6_sampleItems 18 = .ok (.ifnull 36, 3) := by decide +kernel
theorem dX6_sampleItems_21 : decode cX6_sampleItems 21 = .ok (.aload_n 2, 1) := by decide +kernel
theorem dX6_sampleItems_22 : decode cX6_sampleItems 22 = .ok (.getfield 114, 3) := by decide +kernel
theorem dX6_sampleItems_25 : decode cX6_sampleItems 25 = .ok (.getfield 77, 3) := by decide +kernel
theorem dX6_sampleItems_28 : decode cX6_sampleItems 28 = .ok (.ifCond .eq 26, 3) := by decide +kernel
theorem dX6_sampleItems_31 : decode cX6_sampleItems 31 = .ok (.aload_n 2, 1) := by decide +kernel
theorem dX6_sampleItems_32 : decode cX6_sampleItems 32 = .ok (.getfield 208, 3) := by decide +kernel
theorem dX6_sampleItems_35 : decode cX6_sampleItems 35 = .ok (.invokevirtual 212, 3) := by decide +kernel
theorem dX6_sampleItems_38 : decode cX6_sampleItems 38 = .ok (.ifCond .eq 16, 3) := by decide +kernel
theorem dX6_sampleItems_41 : decode cX6_sampleItems 41 = .ok (.aload_n 2, 1) := by decide +kernel
theorem dX6_sampleItems_42 : decode cX6_sampleItems 42 = .ok (.aload_n 0, 1) := by decide +kernel
theorem dX6_sampleItems_43 : decode cX6_sampleItems 43 = .ok (.getfield 9, 3) := by decide +kernel
theorem dX6_sampleItems_46 : decode cX6_sampleItems 46 = .ok (.aload_n 2, 1) := by decide +kernel
theorem dX6_sampleItems_47 : decode cX6_sampleItems 47 = .ok (.getfield 218, 3) := by decide +kernel
theorem dX6_sampleItems_50 : decode cX6_sampleItems 50 = .ok (.iaload, 1) := by decide +kernel
theorem dX6_sampleItems_51 : decode cX6_sampleItems 51 = .ok (.invokevirtual 221, 3) := by decide +kernel
theorem dX6_sampleItems_54 : decode cX6_sampleItems 54 = .ok (.iinc 1 1, 3) := by decide +kernel
theorem dX6_sampleItems_57 : decode cX6_sampleItems 57 = .ok (.goto (-55), 3) := by decide +kernel
theorem dX6_sampleItems_60 : decode cX6_sampleItems 60 = .ok (.return_, 1) := by decide +kernel
abbrev rm6_sampleItems : Room := { frames := 4, cells := 0, slots := 0, locals := 85 }
theorem hd6_sampleItems : yX6_sampleItems.cls ≠ "java/lang/invoke/MethodHandle" ∧ yX6_sampleItems.cls ≠ "java/lang/invoke/VarHandle" ∧ (parseMethodDescriptor yX6_sampleItems.desc).map (fun d => d.parameters.length) = some 0 := by decide +kernel
set_option maxHeartbeats 4000000 in
set_option maxRecDepth 20000 in
theorem ml6_sampleItems_2 {G : xG} {X : xX} (hC : xC G X "PlantServer" cX6_sampleItems 3 rm6_sampleItems) (hr : xRt X none) (htab : xTab X []) (this : Nm) {ρ : Nm → Nat} (h0 : xR0 X ρ) (k n : Nat) (hk1 : k ≤ 0) (hk2 : n ≤ 0) (K : Int32 → PH → Prop) (Q : PH → Prop) (Xp : String → PH → Prop) : ∀ (f2 : Nat) (x2_1 : Int32) (τ2 : PH), l6_sampleItems_2 this K Q f2 x2_1 τ2 → (∀ (x2_1 : Int32) (τ2 : PH), K x2_1 τ2 → xJ G X (xT X (eV ρ Q) Xp G rm6_sampleItems) 3 ρ τ2 k n 60 [(0, .ref (ρ this)), (1, .int x2_1)] []) → xJ G X (xT X (eV ρ Q) Xp G rm6_sampleItems) 3 ρ τ2 k n 2 [(0, .ref (ρ this)), (1, .int x2_1)] [] := by
  intro f2
  induction f2 with
  | zero => intro x2_1 τ2 h hKK; unfold l6_sampleItems_2 at h; exact h.elim
  | succ f2 ih =>
    intro x2_1 τ2 h hKK
    unfold l6_sampleItems_2 at h
    refine x_iload_n hC 1 rfl dX6_sampleItems_2 ?_
    refine x_aload_n hC 0 rfl dX6_sampleItems_3 ?_
    obtain ⟨k1, h⟩ := h
    refine x_getI (n0 := this) hC (ci := 6) (T := TX6) (N := 9) (C := RX6) 6 k1 rfl rfl (by decide) rfl q55 dX6_sampleItems_4 ?_
    refine x_icmp_ge (tgt := 60) hC dX6_sampleItems_7 (by decide) (fun c1 => ?_) (fun c1 => ?_)
    · have h := h.1 c1
      exact hKK _ _ h
    · have h := h.2 c1
      refine x_aload_n hC 0 rfl dX6_sampleItems_10 ?_
      refine x_getR (n0 := this) hC (ci := 6) (T := TX6) (N := 9) (C := RX6) 3 k1 rfl rfl (by decide) rfl q52 dX6_sampleItems_11 ?_
      refine x_iload_n hC 1 rfl dX6_sampleItems_14 ?_
      obtain ⟨m1, hm1, h⟩ := h
      rw [show rv ρ (hR τ2 this 3) = Value.ref (ρ m1) from by rw [hm1]; rfl]
      obtain ⟨k2, h⟩ := h
      obtain ⟨v1, h⟩ := h
      refine x_aald11 (a := m1) hC k2 v1 dX6_sampleItems_15 ?_
      refine x_astore_nQ (o := hR τ2 m1 (Int32.toNatClampNeg x2_1)) (L' := [(2, rv ρ (hR τ2 m1 (Int32.toNatClampNeg x2_1))), (0, .ref (ρ this)), (1, .int x2_1)]) hC dX6_sampleItems_16 (by decide) (by first | rfl | simp (decide := true) [rv_cat, cat_ref, cat_int]) ?_
      refine x_aload_nQ (o := hR τ2 m1 (Int32.toNatClampNeg x2_1)) hC 0 rfl dX6_sampleItems_17 ?_
      refine x_ifnull (o := hR τ2 m1 (Int32.toNatClampNeg x2_1)) (tgt := 54) hC dX6_sampleItems_18 (by decide) (fun c2 => ?_) (fun m2 c2 => ?_)
      · have h := h.1 c2
        rw [show rv ρ (hR τ2 m1 (Int32.toNatClampNeg x2_1)) = Value.null from by rw [c2]; rfl]
        refine x_iinc (v' := x2_1 + 1) (L' := [(1, .int (x2_1 + 1)), (2, .null), (0, .ref (ρ this))]) hC 2 rfl dX6_sampleItems_54 rfl (by decide) (by first | rfl | simp (decide := true) [rv_cat, cat_ref, cat_int]) ?_
        refine x_goto (tgt := 2) hC dX6_sampleItems_57 (by decide) ?_
        refine xJ.sub (L' := [(0, .ref (ρ this)), (1, .int (x2_1 + 1))]) [2, 0] rfl ?_
        exact ih _ _ h hKK
      · have h := h.2 m2 c2
        rw [show rv ρ (hR τ2 m1 (Int32.toNatClampNeg x2_1)) = Value.ref (ρ m2) from by rw [c2]; rfl]
        refine x_aload_n hC 0 rfl dX6_sampleItems_21 ?_
        obtain ⟨k3, h⟩ := h
        refine x_getR (n0 := m2) hC (ci := 1) (T := TX1) (N := 12) (C := RX1) 1 k3 rfl rfl (by decide) rfl q346 dX6_sampleItems_22 ?_
        obtain ⟨m3, hm2, h⟩ := h
        rw [show rv ρ (hR τ2 m2 1) = Value.ref (ρ m3) from by rw [hm2]; rfl]
        obtain ⟨k4, h⟩ := h
        refine x_getI (n0 := m3) hC (ci := 4) (T := TX4) (N := 14) (C := RX4) 7 k4 rfl rfl (by decide) rfl q216 dX6_sampleItems_25 ?_
        refine x_if_eq (tgt := 54) hC dX6_sampleItems_28 (by decide) (fun c3 => ?_) (fun c3 => ?_)
        · have h := h.1 c3
          refine x_iinc (v' := x2_1 + 1) (L' := [(1, .int (x2_1 + 1)), (2, .ref (ρ m2)), (0, .ref (ρ this))]) hC 2 rfl dX6_sampleItems_54 rfl (by decide) (by first | rfl | simp (decide := true) [rv_cat, cat_ref, cat_int]) ?_
          refine x_goto (tgt := 2) hC dX6_sampleItems_57 (by decide) ?_
          refine xJ.sub (L' := [(0, .ref (ρ this)), (1, .int (x2_1 + 1))]) [2, 0] rfl ?_
          exact ih _ _ h hKK
        · have h := h.2 c3
          refine x_aload_n hC 0 rfl dX6_sampleItems_31 ?_
          refine x_getR (n0 := m2) hC (ci := 1) (T := TX1) (N := 12) (C := RX1) 4 k3 rfl rfl (by decide) rfl q353 dX6_sampleItems_32 ?_
          obtain ⟨m4, hm3, h⟩ := h
          rw [show rv ρ (hR τ2 m2 4) = Value.ref (ρ m4) from by rw [hm3]; rfl]
          obtain ⟨k5, h⟩ := h
          refine x_callV (n0 := m4) (as := []) (rest := []) hC (ci := 5) (r := (RX5, TX5, 2)) k5 rfl (fun l hl => m5_countTick l hl G ρ m4 τ2 _ h) q511 q512 q513 q12 q514 ⟨rfl, hd5_countTick⟩ (by decide) ⟨(show _ + 0 ≤ 0 by omega), (show _ + 0 ≤ 0 by omega)⟩ (by first | exact Nat.le_of_ble_eq_true rfl | (simp [rv_cat]; done) | (simp (decide := true) [rv_cat, cat_ref, cat_int]; done)) rfl dX6_sampleItems_35 (fun E σ9 hx => False.elim hx) (fun v2 σ1 ρ1 hp1 hag1 => ?_)
          obtain ⟨e9, r1, e8, h⟩ := hp1
          rw [e8, e9]
          refine xJ.nrm (k' := k + 0) (n' := n + 0) (pc' := 38) (st' := [.int r1]) rfl rfl rfl rfl ?_
          refine x_if_eq (tgt := 54) hC dX6_sampleItems_38 (by decide) (fun c4 => ?_) (fun c4 => ?_)
          · have h := h.1 c4
            refine x_iinc (v' := x2_1 + 1) (L' := [(1, .int (x2_1 + 1)), (2, .ref (ρ m2)), (0, .ref (ρ this))]) hC 2 rfl dX6_sampleItems_54 rfl (by decide) (by first | rfl | simp (decide := true) [rv_cat, cat_ref, cat_int]) ?_
            refine x_goto (tgt := 2) hC dX6_sampleItems_57 (by decide) ?_
            refine xJ.sub (L' := [(0, .ref (ρ this)), (1, .int (x2_1 + 1))]) [2, 0] rfl ?_
            exact ih _ _ h hKK
          · have h := h.2 c4
            refine x_aload_n hC 0 rfl dX6_sampleItems_41 ?_
            refine x_aload_n hC 1 rfl dX6_sampleItems_42 ?_
            have k6 : hK σ1 this = 7 := (hag1 this (by rw [k1]; decide)).1.trans k1
            refine x_getR (n0 := this) hC (ci := 6) (T := TX6) (N := 9) (C := RX6) 0 k6 rfl rfl (by decide) rfl q49 dX6_sampleItems_43 ?_
            refine x_aload_n hC 0 rfl dX6_sampleItems_46 ?_
            have k7 : hK σ1 m2 = 2 := (hag1 m2 (by rw [k3]; decide)).1.trans k3
            refine x_getI (n0 := m2) hC (ci := 1) (T := TX1) (N := 12) (C := RX1) 2 k7 rfl rfl (by decide) rfl q349 dX6_sampleItems_47 ?_
            obtain ⟨m5, hm4, h⟩ := h
            rw [show rv ρ (hR σ1 this 0) = Value.ref (ρ m5) from by rw [hm4]; rfl]
            obtain ⟨k8, h⟩ := h
            obtain ⟨v3, h⟩ := h
            refine x_iald (a := m5) hC k8 v3 dX6_sampleItems_50 ?_
            refine x_callV (n0 := m2) (as := [.int (hI σ1 m5 (Int32.toNatClampNeg (hI σ1 m2 2)))]) (rest := []) hC (ci := 1) (r := (RX1, TX1, 12)) k7 rfl (fun l hl => m1_sample l hl G ρ m2 (hI σ1 m5 (Int32.toNatClampNeg (hI σ1 m2 2))) σ1 _ h) q515 q516 q517 q13 q518 ⟨rfl, hd1_sample⟩ (by decide) ⟨(show _ + 0 ≤ 0 by omega), (show _ + 0 ≤ 0 by omega)⟩ (by first | exact Nat.le_of_ble_eq_true rfl | (simp [rv_cat]; done) | (simp (decide := true) [rv_cat, cat_ref, cat_int]; done)) rfl dX6_sampleItems_51 (fun E σ9 hx => False.elim hx) (fun v4 σ2 ρ2 hp2 hag2 => ?_)
            obtain ⟨e9, e8, h⟩ := hp2
            rw [e8, e9]
            refine xJ.nrm (k' := k + 0) (n' := n + 0) (pc' := 54) (st' := []) rfl rfl rfl rfl ?_
            refine x_iinc (v' := x2_1 + 1) (L' := [(1, .int (x2_1 + 1)), (2, .ref (ρ m2)), (0, .ref (ρ this))]) hC 2 rfl dX6_sampleItems_54 rfl (by decide) (by first | rfl | simp (decide := true) [rv_cat, cat_ref, cat_int]) ?_
            refine x_goto (tgt := 2) hC dX6_sampleItems_57 (by decide) ?_
            refine xJ.sub (L' := [(0, .ref (ρ this)), (1, .int (x2_1 + 1))]) [2, 0] rfl ?_
            exact ih _ _ h hKK
set_option maxHeartbeats 4000000 in
set_option maxRecDepth 20000 in
theorem m6_sampleItems (l : Launch) (hl : l.stackTraces = false) (G : xG) (ρ : Nm → Nat) (this : Nm) (σ : PH) (Q : PH → Prop) (h : w6_sampleItems this σ Q) : xMet l yX6_sampleItems (.code yX6_sampleItems cX6_sampleItems 3 none) rm6_sampleItems G ρ σ [.ref (ρ this)] (eV ρ Q) xNo := by
  refine xMet.of hl (by decide +kernel) (Nat.le_of_ble_eq_true rfl) (fun X hC hr hn htab h0 => ?_)
  have hC : xC G X "PlantServer" cX6_sampleItems 3 rm6_sampleItems := hC
  unfold w6_sampleItems at h
  refine xJ.loc (L' := [(0, .ref (ρ this))]) rfl ?_
  refine x_iconst (v := 0) hC dX6_sampleItems_0 (by decide) ?_
  refine x_istore_n (L' := [(1, .int 0), (0, .ref (ρ this))]) hC dX6_sampleItems_1 (by decide) (by first | rfl | simp (decide := true) [rv_cat, cat_ref, cat_int]) ?_
  refine xJ.sub (L' := [(0, .ref (ρ this)), (1, .int 0)]) [1, 0] rfl ?_
  obtain ⟨f2, h⟩ := h
  refine ml6_sampleItems_2 hC hr htab this h0 (0) (0) (by decide) (by decide) _ Q _ f2 _ _ h (fun y1 τ1 h => ?_)
  exact x_vret hC hr dX6_sampleItems_60 (by decide) (by decide) ⟨rfl, rfl, h⟩
