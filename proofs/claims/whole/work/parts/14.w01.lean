/-! PlantServer$History.record -/
theorem dX0_record_0 : decode cX0_record 0 = .ok (.aload_n 0, 1) := by decide +kernel
theorem dX0_record_1 : decode cX0_record 1 = .ok (.getfield 21, 3) := by decide +kernel
theorem dX0_record_4 : decode cX0_record 4 = .ok (.sipush 512, 3) := by decide +kernel
theorem dX0_record_7 : decode cX0_record 7 = .ok (.if_icmp .ge 43, 3) := by decide +kernel
theorem dX0_record_10 : decode cX0_record 10 = .ok (.aload_n 0, 1) := by decide +kernel
theorem dX0_record_11 : decode cX0_record 11 = .ok (.getfield 9, 3) := by decide +kernel
theorem dX0_record_14 : decode cX0_record 14 = .ok (.aload_n 0, 1) := by decide +kernel
theorem dX0_record_15 : decode cX0_record 15 = .ok (.getfield 21, 3) := by decide +kernel
theorem dX0_record_18 : decode cX0_record 18 = .ok (.iload_n 1, 1) := by decide +kernel
theorem dX0_record_19 : decode cX0_record 19 = .ok (.iastore, 1) := by decide +kernel
theorem dX0_record_20 : decode cX0_record 20 = .ok (.aload_n 0, 1) := by decide +kernel
theorem dX0_record_21 : decode cX0_record 21 = .ok (.getfield 15, 3) := by decide +kernel
theorem dX0_record_24 : decode cX0_record 24 = .ok (.aload_n 0, 1) := by decide +kernel
theorem dX0_record_25 : decode cX0_record 25 = .ok (.getfield 21, 3) := by decide +kernel
theorem dX0_record_28 : decode cX0_record 28 = .ok (.iload_n 2, 1) := by decide +kernel
theorem dX0_record_29 : decode cX0_record 29 = .ok (.iastore, 1) := by decide +kernel
theorem dX0_record_30 : decode cX0_record 30 = .ok (.aload_n 0, 1) := by decide +kernel
theorem dX0_record_31 : decode cX0_record 31 = .ok (.getfield 18, 3) := by decide +kernel
theorem dX0_record_34 : decode cX0_record 34 = .ok (.aload_n 0, 1) := by decide +kernel
theorem dX0_record_35 : decode cX0_record 35 = .ok (.getfield 21, 3) := by decide +kernel
theorem dX0_record_38 : decode cX0_record 38 = .ok (.iload_n 3, 1) := by decide +kernel
theorem dX0_record_39 : decode cX0_record 39 = .ok (.iastore, 1) := by decide +kernel
theorem dX0_record_40 : decode cX0_record 40 = .ok (.aload_n 0, 1) := by decide +kernel
theorem dX0_record_41 : decode cX0_record 41 = .ok (.dup, 1) := by decide +kernel
theorem dX0_record_42 : decode cX0_record 42 = .ok (.getfield 21, 3) := by decide +kernel
theorem dX0_record_45 : decode cX0_record 45 = .ok (.iconst 1, 1) := by decide +kernel
theorem dX0_record_46 : decode cX0_record 46 = .ok (.iadd, 1) := by decide +kernel
theorem dX0_record_47 : decode cX0_record 47 = .ok (.putfield 21, 3) := by decide +kernel
theorem dX0_record_50 : decode cX0_record 50 = .ok (.return_, 1) := by decide +kernel
abbrev rm0_record : Room := { frames := 0, cells := 0, slots := 0, locals := 0 }
theorem hd0_record : yX0_record.cls ≠ "java/lang/invoke/MethodHandle" ∧ yX0_record.cls ≠ "java/lang/invoke/VarHandle" ∧ (parseMethodDescriptor yX0_record.desc).map (fun d => d.parameters.length) = some 3 := by decide +kernel
set_option maxHeartbeats 4000000 in
set_option maxRecDepth 20000 in
theorem m0_record (l : Launch) (hl : l.stackTraces = false) (G : xG) (ρ : Nm → Nat) (this : Nm) (p1 : Int32) (p2 : Int32) (p3 : Int32) (σ : PH) (Q : PH → Prop) (h : w0_record this p1 p2 p3 σ Q) : xMet l yX0_record (.code yX0_record cX0_record 4 none) rm0_record G ρ σ [.ref (ρ this), .int p1, .int p2, .int p3] (eV ρ Q) xNo := by
  refine xMet.of hl (by decide +kernel) (Nat.le_of_ble_eq_true rfl) (fun X hC hr hn htab h0 => ?_)
  have hC : xC G X "PlantServer$History" cX0_record 4 rm0_record := hC
  unfold w0_record at h
  refine xJ.loc (L' := [(0, .ref (ρ this)), (1, .int p1), (2, .int p2), (3, .int p3)]) rfl ?_
  refine x_aload_n hC 0 rfl dX0_record_0 ?_
  obtain ⟨k1, h⟩ := h
  refine x_getI (n0 := this) hC (ci := 0) (T := TX0) (N := 4) (C := RX0) 3 k1 rfl rfl (by decide) rfl q38 dX0_record_1 ?_
  refine x_sipush (v := 512) hC dX0_record_4 (by decide) ?_
  refine x_icmp_ge (tgt := 50) hC dX0_record_7 (by decide) (fun c1 => ?_) (fun c1 => ?_)
  · have h := h.1 c1
    exact x_vret hC hr dX0_record_50 (by decide) (by decide) ⟨rfl, rfl, h⟩
  · have h := h.2 c1
    refine x_aload_n hC 0 rfl dX0_record_10 ?_
    refine x_getR (n0 := this) hC (ci := 0) (T := TX0) (N := 4) (C := RX0) 0 k1 rfl rfl (by decide) rfl q35 dX0_record_11 ?_
    refine x_aload_n hC 0 rfl dX0_record_14 ?_
    refine x_getI (n0 := this) hC (ci := 0) (T := TX0) (N := 4) (C := RX0) 3 k1 rfl rfl (by decide) rfl q38 dX0_record_15 ?_
    refine x_iload_n hC 1 rfl dX0_record_18 ?_
    obtain ⟨m1, hm1, h⟩ := h
    rw [show rv ρ (hR σ this 0) = Value.ref (ρ m1) from by rw [hm1]; rfl]
    obtain ⟨k2, h⟩ := h
    obtain ⟨v1, h⟩ := h
    refine x_iast (a := m1) hC k2 v1 dX0_record_19 ?_
    refine xJ.nmH (fun σ1 e1 => ?_)
    have h := h σ1 e1
    have r1 : hR σ1 = hR σ ∧ hL σ1 = hL σ := by rw [e1]; exact ⟨rfl, rfl⟩
    refine x_aload_n hC 0 rfl dX0_record_20 ?_
    have k3 : hK σ1 this = 1 := by rw [e1]; exact k1
    refine x_getR (n0 := this) hC (ci := 0) (T := TX0) (N := 4) (C := RX0) 1 k3 rfl rfl (by decide) rfl q36 dX0_record_21 ?_
    rw [r1.1]
    refine x_aload_n hC 0 rfl dX0_record_24 ?_
    refine x_getI (n0 := this) hC (ci := 0) (T := TX0) (N := 4) (C := RX0) 3 k3 rfl rfl (by decide) rfl q38 dX0_record_25 ?_
    refine x_iload_n hC 2 rfl dX0_record_28 ?_
    obtain ⟨m2, hm2, h⟩ := h
    rw [show rv ρ (hR σ this 1) = Value.ref (ρ m2) from by rw [hm2]; rfl]
    obtain ⟨k4, h⟩ := h
    obtain ⟨v2, h⟩ := h
    refine x_iast (a := m2) hC k4 (by rw [r1.2]; exact v2) dX0_record_29 ?_
    refine xJ.nmH (fun σ2 e2 => ?_)
    have h := h σ2 e2
    have r2 : hR σ2 = hR σ ∧ hL σ2 = hL σ := by rw [e2]; exact ⟨r1.1, r1.2⟩
    refine x_aload_n hC 0 rfl dX0_record_30 ?_
    have k5 : hK σ2 this = 1 := by rw [e2]; exact k3
    refine x_getR (n0 := this) hC (ci := 0) (T := TX0) (N := 4) (C := RX0) 2 k5 rfl rfl (by decide) rfl q37 dX0_record_31 ?_
    rw [r2.1]
    refine x_aload_n hC 0 rfl dX0_record_34 ?_
    refine x_getI (n0 := this) hC (ci := 0) (T := TX0) (N := 4) (C := RX0) 3 k5 rfl rfl (by decide) rfl q38 dX0_record_35 ?_
    refine x_iload_n hC 3 rfl dX0_record_38 ?_
    obtain ⟨m3, hm3, h⟩ := h
    rw [show rv ρ (hR σ this 2) = Value.ref (ρ m3) from by rw [hm3]; rfl]
    obtain ⟨k6, h⟩ := h
    obtain ⟨v3, h⟩ := h
    refine x_iast (a := m3) hC k6 (by rw [r2.2]; exact v3) dX0_record_39 ?_
    refine xJ.nmH (fun σ3 e3 => ?_)
    have h := h σ3 e3
    have r3 : hR σ3 = hR σ ∧ hL σ3 = hL σ := by rw [e3]; exact ⟨r2.1, r2.2⟩
    refine x_aload_n hC 0 rfl dX0_record_40 ?_
    refine x_dup hC (by first | rfl | exact rv_cat) dX0_record_41 ?_
    have k7 : hK σ3 this = 1 := by rw [e3]; exact k5
    refine x_getI (n0 := this) hC (ci := 0) (T := TX0) (N := 4) (C := RX0) 3 k7 rfl rfl (by decide) rfl q38 dX0_record_42 ?_
    refine x_iconst (v := 1) hC dX0_record_45 (by decide) ?_
    refine x_iadd hC dX0_record_46 ?_
    refine x_putI (n0 := this) hC (ci := 0) (T := TX0) (N := 4) (C := RX0) 3 k7 rfl rfl (by decide) rfl q38 rfl (tyX0_ok 3 (by decide)) dX0_record_47 ?_
    refine xJ.nmH (fun σ4 e4 => ?_)
    have h := h σ4 e4
    have r4 : hR σ4 = hR σ ∧ hL σ4 = hL σ := by rw [e4]; exact ⟨r3.1, r3.2⟩
    exact x_vret hC hr dX0_record_50 (by decide) (by decide) ⟨rfl, rfl, h⟩
/-! PlantServer.write -/
theorem dX6_write_0 : decode cX6_write 0 = .ok (.iload_n 1, 1) := by decide +kernel
theorem dX6_write_1 : decode cX6_write 1 = .ok (.invokestatic 48, 3) := by decide +kernel
theorem dX6_write_4 : decode cX6_write 4 = .ok (.iload_n 2, 1) := by decide +kernel
theorem dX6_write_5 : decode cX6_write 5 = .ok (.iconst 0, 1) := by decide +kernel
theorem dX6_write_6 : decode cX6_write 6 = .ok (.sipush 1000, 3) := by decide +kernel
theorem dX6_write_9 : decode cX6_write 9 = .ok (.invokestatic 52, 3) := by decide +kernel
theorem dX6_write_12 : decode cX6_write 12 = .ok (.aload_n 0, 1) := by decide +kernel
theorem dX6_write_13 : decode cX6_write 13 = .ok (.getfield 9, 3) := by decide +kernel
theorem dX6_write_16 : decode cX6_write 16 = .ok (.iload_n 1, 1) := by decide +kernel
theorem dX6_write_17 : decode cX6_write 17 = .ok (.iaload, 1) := by decide +kernel
theorem dX6_write_18 : decode cX6_write 18 = .ok (.istore_n 3, 1) := by decide +kernel
theorem dX6_write_19 : decode cX6_write 19 = .ok (.aload_n 0, 1) := by decide +kernel
theorem dX6_write_20 : decode cX6_write 20 = .ok (.getfield 9, 3) := by decide +kernel
theorem dX6_write_23 : decode cX6_write 23 = .ok (.iload_n 1, 1) := by decide +kernel
theorem dX6_write_24 : decode cX6_write 24 = .ok (.iload_n 2, 1) := by decide +kernel
theorem dX6_write_25 : decode cX6_write 25 = .ok (.iastore, 1) := by decide +kernel
theorem dX6_write_26 : decode cX6_write 26 = .ok (.aload_n 0, 1) := by decide +kernel
theorem dX6_write_27 : decode cX6_write 27 = .ok (.getfield 31, 3) := by decide +kernel
theorem dX6_write_30 : decode cX6_write 30 = .ok (.aload_n 0, 1) := by decide +kernel
theorem dX6_write_31 : decode cX6_write 31 = .ok (.getfield 45, 3) := by decide +kernel
theorem dX6_write_34 : decode cX6_write 34 = .ok (.iload_n 1, 1) := by decide +kernel
theorem dX6_write_35 : decode cX6_write 35 = .ok (.iload_n 2, 1) := by decide +kernel
theorem dX6_write_36 : decode cX6_write 36 = .ok (.invokevirtual 56, 3) := by decide +kernel
theorem dX6_write_39 : decode cX6_write 39 = .ok (.iload_n 3, 1) := by decide +kernel
theorem dX6_write_40 : decode cX6_write 40 = .ok (.ireturn, 1) := by decide +kernel
abbrev rm6_write : Room := { frames := 7, cells := 2, slots := 12, locals := 112 }
theorem hd6_write : yX6_write.cls ≠ "java/lang/invoke/MethodHandle" ∧ yX6_write.cls ≠ "java/lang/invoke/VarHandle" ∧ (parseMethodDescriptor yX6_write.desc).map (fun d => d.parameters.length) = some 2 := by decide +kernel
set_option maxHeartbeats 4000000 in
set_option maxRecDepth 20000 in
theorem m6_write (l : Launch) (hl : l.stackTraces = false) (G : xG) (ρ : Nm → Nat) (this : Nm) (p1 : Int32) (p2 : Int32) (σ : PH) (Q : Int32 → PH → Prop) (Xp : String → PH → Prop) (h : w6_write this p1 p2 σ Q Xp) : xMet l yX6_write (.code yX6_write cX6_write 4 (some .int)) rm6_write G ρ σ [.ref (ρ this), .int p1, .int p2] (eI ρ Q) Xp := by
  refine xMet.of hl (by decide +kernel) (Nat.le_of_ble_eq_true rfl) (fun X hC hr hn htab h0 => ?_)
  have hC : xC G X "PlantServer" cX6_write 4 rm6_write := hC
  unfold w6_write at h
  refine xJ.loc (L' := [(0, .ref (ρ this)), (1, .int p1), (2, .int p2)]) rfl ?_
  refine x_iload_n hC 1 rfl dX6_write_0 ?_
  refine x_callS (as := [.int p1]) (rest := []) hC (fun l hl => m6_checkNode l hl G ρ p1 σ _ Xp h) q95 q96 q1 q97 hd6_checkNode (by decide) ⟨(by decide), (by decide)⟩ (by first | exact Nat.le_of_ble_eq_true rfl | (simp [rv_cat]; done) | (simp (decide := true) [rv_cat, cat_ref, cat_int]; done)) rfl dX6_write_1 (fun E σ9 hx => x_out hC h0 htab (by decide) (by decide) hx) (fun v1 σ1 ρ1 hp1 hag1 => ?_)
  obtain ⟨e9, e8, h⟩ := hp1
  rw [e8, e9]
  refine xJ.nrm (k' := 1) (n' := 6) (pc' := 4) (st' := []) rfl rfl rfl rfl ?_
  refine x_iload_n hC 2 rfl dX6_write_4 ?_
  refine x_iconst (v := 0) hC dX6_write_5 (by decide) ?_
  refine x_sipush (v := 1000) hC dX6_write_6 (by decide) ?_
  refine x_callS (as := [.int p2, .int 0, .int 1000]) (rest := []) hC (fun l hl => m6_checkRange l hl G ρ p2 0 1000 σ1 _ Xp h) q167 q168 q1 q169 hd6_checkRange (by decide) ⟨(by decide), (by decide)⟩ (by first | exact Nat.le_of_ble_eq_true rfl | (simp [rv_cat]; done) | (simp (decide := true) [rv_cat, cat_ref, cat_int]; done)) rfl dX6_write_9 (fun E σ9 hx => x_out hC h0 htab (by decide) (by decide) hx) (fun v2 σ2 ρ2 hp2 hag2 => ?_)
  obtain ⟨e9, e8, h⟩ := hp2
  rw [e8, e9]
  refine xJ.nrm (k' := 2) (n' := 12) (pc' := 12) (st' := []) rfl rfl rfl rfl ?_
  refine x_aload_n hC 0 rfl dX6_write_12 ?_
  obtain ⟨k1, h⟩ := h
  refine x_getR (n0 := this) hC (ci := 6) (T := TX6) (N := 9) (C := RX6) 0 k1 rfl rfl (by decide) rfl q50 dX6_write_13 ?_
  refine x_iload_n hC 1 rfl dX6_write_16 ?_
  obtain ⟨m1, hm1, h⟩ := h
  rw [show rv ρ (hR σ2 this 0) = Value.ref (ρ m1) from by rw [hm1]; rfl]
  obtain ⟨k2, h⟩ := h
  obtain ⟨v3, h⟩ := h
  refine x_iald (a := m1) hC k2 v3 dX6_write_17 ?_
  refine x_istore_n (L' := [(3, .int (hI σ2 m1 (Int32.toNatClampNeg p1))), (0, .ref (ρ this)), (1, .int p1), (2, .int p2)]) hC dX6_write_18 (by decide) (by first | rfl | simp (decide := true) [rv_cat, cat_ref, cat_int]) ?_
  refine x_aload_n hC 1 rfl dX6_write_19 ?_
  refine x_getR (n0 := this) hC (ci := 6) (T := TX6) (N := 9) (C := RX6) 0 k1 rfl rfl (by decide) rfl q50 dX6_write_20 ?_
  rw [show rv ρ (hR σ2 this 0) = Value.ref (ρ m1) from by rw [hm1]; rfl]
  refine x_iload_n hC 2 rfl dX6_write_23 ?_
  refine x_iload_n hC 3 rfl dX6_write_24 ?_
  refine x_iast (a := m1) hC k2 v3 dX6_write_25 ?_
  refine xJ.nmH (fun σ3 e1 => ?_)
  have h := h σ3 e1
  have r1 : hR σ3 = hR σ2 ∧ hL σ3 = hL σ2 := by rw [e1]; exact ⟨rfl, rfl⟩
  refine x_aload_n hC 1 rfl dX6_write_26 ?_
  have k3 : hK σ3 this = 7 := by rw [e1]; exact k1
  refine x_getR (n0 := this) hC (ci := 6) (T := TX6) (N := 9) (C := RX6) 4 k3 rfl rfl (by decide) rfl q54 dX6_write_27 ?_
  rw [r1.1]
  refine x_aload_n hC 1 rfl dX6_write_30 ?_
  refine x_getI (n0 := this) hC (ci := 6) (T := TX6) (N := 9) (C := RX6) 8 k3 rfl rfl (by decide) rfl q58 dX6_write_31 ?_
  refine x_iload_n hC 2 rfl dX6_write_34 ?_
  refine x_iload_n hC 3 rfl dX6_write_35 ?_
  obtain ⟨m2, hm2, h⟩ := h
  rw [show rv ρ (hR σ2 this 4) = Value.ref (ρ m2) from by rw [hm2]; rfl]
  obtain ⟨k4, h⟩ := h
  refine x_callV (n0 := m2) (as := [.int (hI σ3 this 8), .int p1, .int p2]) (rest := []) hC (ci := 0) (r := (RX0, TX0, 4)) k4 rfl (fun l hl => m0_record l hl G ρ m2 (hI σ3 this 8) p1 p2 σ3 _ h) q186 q187 q188 q2 q189 ⟨rfl, hd0_record⟩ (by decide) ⟨(by decide), (by decide)⟩ (by first | exact Nat.le_of_ble_eq_true rfl | (simp [rv_cat]; done) | (simp (decide := true) [rv_cat, cat_ref, cat_int]; done)) rfl dX6_write_36 (fun E σ9 hx => False.elim hx) (fun v4 σ4 ρ3 hp3 hag3 => ?_)
  obtain ⟨e9, e8, h⟩ := hp3
  rw [e8, e9]
  refine xJ.nrm (k' := 2) (n' := 12) (pc' := 39) (st' := []) rfl rfl rfl rfl ?_
  refine x_iload_n hC 0 rfl dX6_write_39 ?_
  exact x_iret hC hr dX6_write_40 (by decide) (by decide) ⟨rfl, _, rfl, h⟩
/-! PlantServerLaw.write -/
theorem dL_write_0 : decode cL_write 0 = .ok (.aload_n 3, 1) := by decide +kernel
theorem dL_write_1 : decode cL_write 1 = .ok (.iconst 0, 1) := by decide +kernel
theorem dL_write_2 : decode cL_write 2 = .ok (.aload_n 0, 1) := by decide +kernel
theorem dL_write_3 : decode cL_write 3 = .ok (.iload_n 1, 1) := by decide +kernel
theorem dL_write_4 : decode cL_write 4 = .ok (.iload_n 2, 1) := by decide +kernel
theorem dL_write_5 : decode cL_write 5 = .ok (.invokevirtual 7, 3) := by decide +kernel
theorem dL_write_8 : decode cL_write 8 = .ok (.i2l, 1) := by decide +kernel
theorem dL_write_9 : decode cL_write 9 = .ok (.lastore, 1) := by decide +kernel
theorem dL_write_10 : decode cL_write 10 = .ok (.goto 11, 3) := by decide +kernel
theorem dL_write_13 : decode cL_write 13 = .ok (.astore 4, 2) := by decide +kernel
theorem dL_write_15 : decode cL_write 15 = .ok (.iconst 1, 1) := by decide +kernel
theorem dL_write_16 : decode cL_write 16 = .ok (.ireturn, 1) := by decide +kernel
theorem dL_write_17 : decode cL_write 17 = .ok (.astore 4, 2) := by decide +kernel
theorem dL_write_19 : decode cL_write 19 = .ok (.iconst 2, 1) := by decide +kernel
theorem dL_write_20 : decode cL_write 20 = .ok (.ireturn, 1) := by decide +kernel
theorem dL_write_21 : decode cL_write 21 = .ok (.iconst 0, 1) := by decide +kernel
theorem dL_write_22 : decode cL_write 22 = .ok (.ireturn, 1) := by decide +kernel
abbrev rmL_write : Room := { frames := 8, cells := 2, slots := 12, locals := 135 }
theorem hdL_write : yL_write.cls ≠ "java/lang/invoke/MethodHandle" ∧ yL_write.cls ≠ "java/lang/invoke/VarHandle" ∧ (parseMethodDescriptor yL_write.desc).map (fun d => d.parameters.length) = some 4 := by decide +kernel
set_option maxHeartbeats 4000000 in
set_option maxRecDepth 20000 in
theorem mL_write (l : Launch) (hl : l.stackTraces = false) (G : xG) (ρ : Nm → Nat) (a1 : Nm) (p2 : Int32) (p3 : Int32) (a4 : Nm) (σ : PH) (Q : Int32 → PH → Prop) (h : wL_write a1 p2 p3 a4 σ Q) : xMet l yL_write (.codeWith yL_write cL_write 5 (some .int) [(0, 10, 13, 13), (0, 10, 17, 15)]) rmL_write G ρ σ [.ref (ρ a1), .int p2, .int p3, .ref (ρ a4)] (eI ρ Q) xNo := by
  refine xMet.ofW hl (by decide +kernel) (Nat.le_of_ble_eq_true rfl) (fun X hC hr hn htab h0 => ?_)
  have hC : xC G X "PlantServerLaw" cL_write 5 rmL_write := hC
  unfold wL_write at h
  refine xJ.loc (L' := [(0, .ref (ρ a1)), (1, .int p2), (2, .int p3), (3, .ref (ρ a4))]) rfl ?_
  refine x_aload_n hC 3 rfl dL_write_0 ?_
  refine x_iconst (v := 0) hC dL_write_1 (by decide) ?_
  refine x_aload_n hC 0 rfl dL_write_2 ?_
  refine x_iload_n hC 1 rfl dL_write_3 ?_
  refine x_iload_n hC 2 rfl dL_write_4 ?_
  obtain ⟨k1, h⟩ := h
  refine x_callV (n0 := a1) (as := [.int p2, .int p3]) (rest := [.int 0, .ref (ρ a4)]) hC (ci := 6) (r := (RX6, TX6, 9)) k1 rfl (fun l hl => m6_write l hl G ρ a1 p2 p3 σ _ _ h) q91 q92 q93 q1 q94 ⟨rfl, hd6_write⟩ (by decide) ⟨(by decide), (by decide)⟩ (by first | exact Nat.le_of_ble_eq_true rfl | (simp [rv_cat]; done) | (simp (decide := true) [rv_cat, cat_ref, cat_int]; done)) rfl dL_write_5 (fun E σ2 hx => ?_) (fun v1 σ1 ρ1 hp1 hag1 => ?_)
  · have hE9 := hx.2.2
    rcases hE9 with he | he
    · have h := hx.1 he
      subst he
      refine x_catch hC [] [(0, 10, 17, 15)] (0, 10, 13, 13) htab (by intro z hz; simp at hz) (by decide) (by decide) q89 xcast_xIO (fun qx1 => ?_)
      refine xJ.nrm (k' := 2) (n' := 12) (pc' := 13) (st' := [.ref qx1]) rfl rfl rfl rfl ?_
      refine x_astore (L' := [(4, .ref qx1), (0, .ref (ρ a1)), (1, .int p2), (2, .int p3), (3, .ref (ρ a4))]) hC dL_write_13 (by decide) (by first | rfl | simp (decide := true) [rv_cat, cat_ref, cat_int]) ?_
      refine x_iconst (v := 1) hC dL_write_15 (by decide) ?_
      exact x_iret hC hr dL_write_16 (by decide) (by decide) ⟨rfl, _, rfl, h⟩
    · have h := hx.2.1 he
      subst he
      refine x_catch hC [(0, 10, 13, 13)] [] (0, 10, 17, 15) htab (xpass1 (E := xIA) q89 (by decide) (by decide +kernel)) (by decide) (by decide) q90 xcast_xIA (fun qx2 => ?_)
      refine xJ.nrm (k' := 2) (n' := 12) (pc' := 17) (st' := [.ref qx2]) rfl rfl rfl rfl ?_
      refine x_astore (L' := [(4, .ref qx2), (0, .ref (ρ a1)), (1, .int p2), (2, .int p3), (3, .ref (ρ a4))]) hC dL_write_17 (by decide) (by first | rfl | simp (decide := true) [rv_cat, cat_ref, cat_int]) ?_
      refine x_iconst (v := 2) hC dL_write_19 (by decide) ?_
      exact x_iret hC hr dL_write_20 (by decide) (by decide) ⟨rfl, _, rfl, h⟩
  · obtain ⟨e9, r1, e8, h⟩ := hp1
    rw [e8, e9]
    refine xJ.nrm (k' := 2) (n' := 12) (pc' := 8) (st' := [.int r1, .int 0, .ref (ρ a4)]) rfl rfl rfl rfl ?_
    refine x_i2l hC dL_write_8 ?_
    obtain ⟨k2, h⟩ := h
    obtain ⟨v2, h⟩ := h
    refine x_last (a := a4) hC k2 v2 dL_write_9 ?_
    refine xJ.nmH (fun σ3 e1 => ?_)
    have h := h σ3 e1
    have r2 : hR σ3 = hR σ1 ∧ hL σ3 = hL σ1 := by rw [e1]; exact ⟨rfl, rfl⟩
    refine x_goto (tgt := 21) hC dL_write_10 (by decide) ?_
    refine x_iconst (v := 0) hC dL_write_21 (by decide) ?_
    exact x_iret hC hr dL_write_22 (by decide) (by decide) ⟨rfl, _, rfl, h⟩
/-! PlantServerModel.in -/
theorem dX7_in_0 : decode cX7_in 0 = .ok (.iload_n 0, 1) := by decide +kernel
theorem dX7_in_1 : decode cX7_in 1 = .ok (.iload_n 1, 1) := by decide +kernel
theorem dX7_in_2 : decode cX7_in 2 = .ok (.if_icmp .lt 12, 3) := by decide +kernel
theorem dX7_in_5 : decode cX7_in 5 = .ok (.iload_n 0, 1) := by decide +kernel
theorem dX7_in_6 : decode cX7_in 6 = .ok (.iload_n 2, 1) := by decide +kernel
theorem dX7_in_7 : decode cX7_in 7 = .ok (.if_icmp .gt 7, 3) := by decide +kernel
theorem dX7_in_10 : decode cX7_in 10 = .ok (.iconst 1, 1) := by decide +kernel
theorem dX7_in_11 : decode cX7_in 11 = .ok (.goto 4, 3) := by decide +kernel
theorem dX7_in_14 : decode cX7_in 14 = .ok (.iconst 0, 1) := by decide +kernel
theorem dX7_in_15 : decode cX7_in 15 = .ok (.ireturn, 1) := by decide +kernel
abbrev rm7_in : Room := { frames := 0, cells := 0, slots := 0, locals := 0 }
theorem hd7_in : yX7_in.cls ≠ "java/lang/invoke/MethodHandle" ∧ yX7_in.cls ≠ "java/lang/invoke/VarHandle" ∧ (parseMethodDescriptor yX7_in.desc).map (fun d => d.parameters.length) = some 3 := by decide +kernel
set_option maxHeartbeats 4000000 in
set_option maxRecDepth 20000 in
theorem m7_in (l : Launch) (hl : l.stackTraces = false) (G : xG) (ρ : Nm → Nat) (p1 : Int32) (p2 : Int32) (p3 : Int32) (σ : PH) (Q : Int32 → PH → Prop) (h : w7_in p1 p2 p3 σ Q) : xMet l yX7_in (.code yX7_in cX7_in 3 (some .boolean)) rm7_in G ρ σ [.int p1, .int p2, .int p3] (eI ρ Q) xNo := by
  refine xMet.of hl (by decide +kernel) (Nat.le_of_ble_eq_true rfl) (fun X hC hr hn htab h0 => ?_)
  have hC : xC G X "PlantServerModel" cX7_in 3 rm7_in := hC
  unfold w7_in at h
  refine xJ.loc (L' := [(0, .int p1), (1, .int p2), (2, .int p3)]) rfl ?_
  refine x_iload_n hC 0 rfl dX7_in_0 ?_
  refine x_iload_n hC 1 rfl dX7_in_1 ?_
  refine x_icmp_lt (tgt := 14) hC dX7_in_2 (by decide) (fun c1 => ?_) (fun c1 => ?_)
  · have h := h.1 c1
    refine x_iconst (v := 0) hC dX7_in_14 (by decide) ?_
    exact x_zret hC hr zb0 dX7_in_15 (by decide) (by decide) ⟨rfl, _, rfl, h⟩
  · have h := h.2 c1
    refine x_iload_n hC 0 rfl dX7_in_5 ?_
    refine x_iload_n hC 2 rfl dX7_in_6 ?_
    refine x_icmp_gt (tgt := 14) hC dX7_in_7 (by decide) (fun c2 => ?_) (fun c2 => ?_)
    · have h := h.1 c2
      refine x_iconst (v := 0) hC dX7_in_14 (by decide) ?_
      exact x_zret hC hr zb0 dX7_in_15 (by decide) (by decide) ⟨rfl, _, rfl, h⟩
    · have h := h.2 c2
      refine x_iconst (v := 1) hC dX7_in_10 (by decide) ?_
      refine x_goto (tgt := 15) hC dX7_in_11 (by decide) ?_
      exact x_zret hC hr zb1 dX7_in_15 (by decide) (by decide) ⟨rfl, _, rfl, h⟩
/-! PlantServerModel.isNode -/
theorem dX7_isNode_0 : decode cX7_isNode 0 = .ok (.iload_n 0, 1) := by decide +kernel
theorem dX7_isNode_1 : decode cX7_isNode 1 = .ok (.iconst 0, 1) := by decide +kernel
theorem dX7_isNode_2 : decode cX7_isNode 2 = .ok (.bipush 9, 2) := by decide +kernel
theorem dX7_isNode_4 : decode cX7_isNode 4 = .ok (.invokestatic 108, 3) := by decide +kernel
theorem dX7_isNode_7 : decode cX7_isNode 7 = .ok (.ireturn, 1) := by decide +kernel
abbrev rm7_isNode : Room := { frames := 1, cells := 0, slots := 0, locals := 22 }
theorem hd7_isNode : yX7_isNode.cls ≠ "java/lang/invoke/MethodHandle" ∧ yX7_isNode.cls ≠ "java/lang/invoke/VarHandle" ∧ (parseMethodDescriptor yX7_isNode.desc).map (fun d => d.parameters.length) = some 1 := by decide +kernel
set_option maxHeartbeats 4000000 in
set_option maxRecDepth 20000 in
theorem m7_isNode (l : Launch) (hl : l.stackTraces = false) (G : xG) (ρ : Nm → Nat) (p1 : Int32) (σ : PH) (Q : Int32 → PH → Prop) (h : w7_isNode p1 σ Q) : xMet l yX7_isNode (.code yX7_isNode cX7_isNode 1 (some .boolean)) rm7_isNode G ρ σ [.int p1] (eI ρ Q) xNo := by
  refine xMet.of hl (by decide +kernel) (Nat.le_of_ble_eq_true rfl) (fun X hC hr hn htab h0 => ?_)
  have hC : xC G X "PlantServerModel" cX7_isNode 1 rm7_isNode := hC
  unfold w7_isNode at h
  refine xJ.loc (L' := [(0, .int p1)]) rfl ?_
  refine x_iload_n hC 0 rfl dX7_isNode_0 ?_
  refine x_iconst (v := 0) hC dX7_isNode_1 (by decide) ?_
  refine x_bipush (v := 9) hC dX7_isNode_2 (by decide) ?_
  refine x_callS (as := [.int p1, .int 0, .int 9]) (rest := []) hC (fun l hl => m7_in l hl G ρ p1 0 9 σ _ h) q809 q810 q3 q811 hd7_in (by decide) ⟨(by decide), (by decide)⟩ (by first | exact Nat.le_of_ble_eq_true rfl | (simp [rv_cat]; done) | (simp (decide := true) [rv_cat, cat_ref, cat_int]; done)) rfl dX7_isNode_4 (fun E σ9 hx => False.elim hx) (fun v1 σ1 ρ1 hp1 hag1 => ?_)
  obtain ⟨e9, r1, e8, h⟩ := hp1
  rw [e8, e9]
  refine xJ.nrm (k' := 0) (n' := 0) (pc' := 7) (st' := [.int r1]) rfl rfl rfl rfl ?_
  obtain ⟨zh1, h⟩ := h
  exact x_zret hC hr zh1 dX7_isNode_7 (by decide) (by decide) ⟨rfl, _, rfl, h⟩
/-! PlantServerModel.write -/
theorem dX7_write_0 : decode cX7_write 0 = .ok (.aload_n 0, 1) := by decide +kernel
theorem dX7_write_1 : decode cX7_write 1 = .ok (.iload_n 1, 1) := by decide +kernel
theorem dX7_write_2 : decode cX7_write 2 = .ok (.invokestatic 118, 3) := by decide +kernel
theorem dX7_write_5 : decode cX7_write 5 = .ok (.ifCond .ne 7, 3) := by decide +kernel
theorem dX7_write_8 : decode cX7_write 8 = .ok (.iconst 1, 1) := by decide +kernel
theorem dX7_write_9 : decode cX7_write 9 = .ok (.goto 19, 3) := by decide +kernel
theorem dX7_write_12 : decode cX7_write 12 = .ok (.iload_n 2, 1) := by decide +kernel
theorem dX7_write_13 : decode cX7_write 13 = .ok (.iconst 0, 1) := by decide +kernel
theorem dX7_write_14 : decode cX7_write 14 = .ok (.sipush 1000, 3) := by decide +kernel
theorem dX7_write_17 : decode cX7_write 17 = .ok (.invokestatic 108, 3) := by decide +kernel
theorem dX7_write_20 : decode cX7_write 20 = .ok (.ifCond .eq 7, 3) := by decide +kernel
theorem dX7_write_23 : decode cX7_write 23 = .ok (.iconst 0, 1) := by decide +kernel
theorem dX7_write_24 : decode cX7_write 24 = .ok (.goto 4, 3) := by decide +kernel
theorem dX7_write_27 : decode cX7_write 27 = .ok (.iconst 2, 1) := by decide +kernel
theorem dX7_write_28 : decode cX7_write 28 = .ok (.putfield 104, 3) := by decide +kernel
theorem dX7_write_31 : decode cX7_write 31 = .ok (.aload_n 0, 1) := by decide +kernel
theorem dX7_write_32 : decode cX7_write 32 = .ok (.getfield 104, 3) := by decide +kernel
theorem dX7_write_35 : decode cX7_write 35 = .ok (.ifCond .le 5, 3) := by decide +kernel
theorem dX7_write_38 : decode cX7_write 38 = .ok (.iconst 0, 1) := by decide +kernel
theorem dX7_write_39 : decode cX7_write 39 = .ok (.ireturn, 1) := by decide +kernel
theorem dX7_write_40 : decode cX7_write 40 = .ok (.aload_n 0, 1) := by decide +kernel
theorem dX7_write_41 : decode cX7_write 41 = .ok (.getfield 7, 3) := by decide +kernel
theorem dX7_write_44 : decode cX7_write 44 = .ok (.iload_n 1, 1) := by decide +kernel
theorem dX7_write_45 : decode cX7_write 45 = .ok (.iaload, 1) := by decide +kernel
theorem dX7_write_46 : decode cX7_write 46 = .ok (.istore_n 3, 1) := by decide +kernel
theorem dX7_write_47 : decode cX7_write 47 = .ok (.aload_n 0, 1) := by decide +kernel
theorem dX7_write_48 : decode cX7_write 48 = .ok (.getfield 7, 3) := by decide +kernel
theorem dX7_write_51 : decode cX7_write 51 = .ok (.iload_n 1, 1) := by decide +kernel
theorem dX7_write_52 : decode cX7_write 52 = .ok (.iload_n 2, 1) := by decide +kernel
theorem dX7_write_53 : decode cX7_write 53 = .ok (.iastore, 1) := by decide +kernel
theorem dX7_write_54 : decode cX7_write 54 = .ok (.iload_n 3, 1) := by decide +kernel
theorem dX7_write_55 : decode cX7_write 55 = .ok (.ireturn, 1) := by decide +kernel
abbrev rm7_write : Room := { frames := 2, cells := 0, slots := 0, locals := 42 }
theorem hd7_write : yX7_write.cls ≠ "java/lang/invoke/MethodHandle" ∧ yX7_write.cls ≠ "java/lang/invoke/VarHandle" ∧ (parseMethodDescriptor yX7_write.desc).map (fun d => d.parameters.length) = some 2 := by decide +kernel
set_option maxHeartbeats 4000000 in
set_option maxRecDepth 20000 in
theorem m7_write (l : Launch) (hl : l.stackTraces = false) (G : xG) (ρ : Nm → Nat) (this : Nm) (p1 : Int32) (p2 : Int32) (σ : PH) (Q : Int32 → PH → Prop) (h : w7_write this p1 p2 σ Q) : xMet l yX7_write (.code yX7_write cX7_write 4 (some .int)) rm7_write G ρ σ [.ref (ρ this), .int p1, .int p2] (eI ρ Q) xNo := by
  refine xMet.of hl (by decide +kernel) (Nat.le_of_ble_eq_true rfl) (fun X hC hr hn htab h0 => ?_)
  have hC : xC G X "PlantServerModel" cX7_write 4 rm7_write := hC
  unfold w7_write at h
  refine xJ.loc (L' := [(0, .ref (ρ this)), (1, .int p1), (2, .int p2)]) rfl ?_
  refine x_aload_n hC 0 rfl dX7_write_0 ?_
  refine x_iload_n hC 1 rfl dX7_write_1 ?_
  refine x_callS (as := [.int p1]) (rest := [.ref (ρ this)]) hC (fun l hl => m7_isNode l hl G ρ p1 σ _ h) q806 q807 q3 q808 hd7_isNode (by decide) ⟨(by decide), (by decide)⟩ (by first | exact Nat.le_of_ble_eq_true rfl | (simp [rv_cat]; done) | (simp (decide := true) [rv_cat, cat_ref, cat_int]; done)) rfl dX7_write_2 (fun E σ9 hx => False.elim hx) (fun v1 σ1 ρ1 hp1 hag1 => ?_)
  obtain ⟨e9, r1, e8, h⟩ := hp1
  rw [e8, e9]
  refine xJ.nrm (k' := 0) (n' := 0) (pc' := 5) (st' := [.int r1, .ref (ρ this)]) rfl rfl rfl rfl ?_
  refine x_if_ne (tgt := 12) hC dX7_write_5 (by decide) (fun c1 => ?_) (fun c1 => ?_)
  · have h := h.1 c1
    refine x_iload_n hC 2 rfl dX7_write_12 ?_
    refine x_iconst (v := 0) hC dX7_write_13 (by decide) ?_
    refine x_sipush (v := 1000) hC dX7_write_14 (by decide) ?_
    refine x_callS (as := [.int p2, .int 0, .int 1000]) (rest := [.ref (ρ this)]) hC (fun l hl => m7_in l hl G ρ p2 0 1000 σ1 _ h) q809 q810 q3 q811 hd7_in (by decide) ⟨(by decide), (by decide)⟩ (by first | exact Nat.le_of_ble_eq_true rfl | (simp [rv_cat]; done) | (simp (decide := true) [rv_cat, cat_ref, cat_int]; done)) rfl dX7_write_17 (fun E σ9 hx => False.elim hx) (fun v2 σ2 ρ2 hp2 hag2 => ?_)
    obtain ⟨e9, r2, e8, h⟩ := hp2
    rw [e8, e9]
    refine xJ.nrm (k' := 0) (n' := 0) (pc' := 20) (st' := [.int r2, .ref (ρ this)]) rfl rfl rfl rfl ?_
    refine x_if_eq (tgt := 27) hC dX7_write_20 (by decide) (fun c2 => ?_) (fun c2 => ?_)
    · have h := h.1 c2
      refine x_iconst (v := 2) hC dX7_write_27 (by decide) ?_
      obtain ⟨k1, h⟩ := h
      refine x_putI (n0 := this) hC (ci := 7) (T := TX7) (N := 36) (C := RX7) 0 k1 rfl rfl (by decide) rfl q689 rfl (tyX7_ok 0 (by decide)) dX7_write_28 ?_
      refine xJ.nmH (fun σ3 e1 => ?_)
      have h := h σ3 e1
      have r3 : hR σ3 = hR σ2 ∧ hL σ3 = hL σ2 := by rw [e1]; exact ⟨rfl, rfl⟩
      refine x_aload_n hC 0 rfl dX7_write_31 ?_
      have k2 : hK σ3 this = 8 := by rw [e1]; exact k1
      refine x_getI (n0 := this) hC (ci := 7) (T := TX7) (N := 36) (C := RX7) 0 k2 rfl rfl (by decide) rfl q689 dX7_write_32 ?_
      refine x_if_le (tgt := 40) hC dX7_write_35 (by decide) (fun c3 => ?_) (fun c3 => ?_)
      · have h := h.1 c3
        refine x_aload_n hC 0 rfl dX7_write_40 ?_
        refine x_getR (n0 := this) hC (ci := 7) (T := TX7) (N := 36) (C := RX7) 2 k2 rfl rfl (by decide) rfl q691 dX7_write_41 ?_
        rw [r3.1]
        refine x_iload_n hC 1 rfl dX7_write_44 ?_
        obtain ⟨m1, hm1, h⟩ := h
        rw [show rv ρ (hR σ2 this 2) = Value.ref (ρ m1) from by rw [hm1]; rfl]
        obtain ⟨k3, h⟩ := h
        obtain ⟨v3, h⟩ := h
        refine x_iald (a := m1) hC k3 (by rw [r3.2]; exact v3) dX7_write_45 ?_
        refine x_istore_n (L' := [(3, .int (hI σ3 m1 (Int32.toNatClampNeg p1))), (0, .ref (ρ this)), (1, .int p1), (2, .int p2)]) hC dX7_write_46 (by decide) (by first | rfl | simp (decide := true) [rv_cat, cat_ref, cat_int]) ?_
        refine x_aload_n hC 1 rfl dX7_write_47 ?_
        refine x_getR (n0 := this) hC (ci := 7) (T := TX7) (N := 36) (C := RX7) 2 k2 rfl rfl (by decide) rfl q691 dX7_write_48 ?_
        rw [r3.1]
        rw [show rv ρ (hR σ2 this 2) = Value.ref (ρ m1) from by rw [hm1]; rfl]
        refine x_iload_n hC 2 rfl dX7_write_51 ?_
        refine x_iload_n hC 3 rfl dX7_write_52 ?_
        refine x_iast (a := m1) hC k3 (by rw [r3.2]; exact v3) dX7_write_53 ?_
        refine xJ.nmH (fun σ4 e2 => ?_)
        have h := h σ4 e2
        have r4 : hR σ4 = hR σ2 ∧ hL σ4 = hL σ2 := by rw [e2]; exact ⟨r3.1, r3.2⟩
        refine x_iload_n hC 0 rfl dX7_write_54 ?_
        exact x_iret hC hr dX7_write_55 (by decide) (by decide) ⟨rfl, _, rfl, h⟩
      · have h := h.2 c3
        refine x_iconst (v := 0) hC dX7_write_38 (by decide) ?_
        exact x_iret hC hr dX7_write_39 (by decide) (by decide) ⟨rfl, _, rfl, h⟩
    · have h := h.2 c2
      refine x_iconst (v := 0) hC dX7_write_23 (by decide) ?_
      refine x_goto (tgt := 28) hC dX7_write_24 (by decide) ?_
      obtain ⟨k4, h⟩ := h
      refine x_putI (n0 := this) hC (ci := 7) (T := TX7) (N := 36) (C := RX7) 0 k4 rfl rfl (by decide) rfl q689 rfl (tyX7_ok 0 (by decide)) dX7_write_28 ?_
      refine xJ.nmH (fun σ5 e3 => ?_)
      have h := h σ5 e3
      have r5 : hR σ5 = hR σ2 ∧ hL σ5 = hL σ2 := by rw [e3]; exact ⟨rfl, rfl⟩
      refine x_aload_n hC 0 rfl dX7_write_31 ?_
      have k5 : hK σ5 this = 8 := by rw [e3]; exact k4
      refine x_getI (n0 := this) hC (ci := 7) (T := TX7) (N := 36) (C := RX7) 0 k5 rfl rfl (by decide) rfl q689 dX7_write_32 ?_
      refine x_if_le (tgt := 40) hC dX7_write_35 (by decide) (fun c4 => ?_) (fun c4 => ?_)
      · have h := h.1 c4
        refine x_aload_n hC 0 rfl dX7_write_40 ?_
        refine x_getR (n0 := this) hC (ci := 7) (T := TX7) (N := 36) (C := RX7) 2 k5 rfl rfl (by decide) rfl q691 dX7_write_41 ?_
        rw [r5.1]
        refine x_iload_n hC 1 rfl dX7_write_44 ?_
        obtain ⟨m2, hm2, h⟩ := h
        rw [show rv ρ (hR σ2 this 2) = Value.ref (ρ m2) from by rw [hm2]; rfl]
        obtain ⟨k6, h⟩ := h
        obtain ⟨v4, h⟩ := h
        refine x_iald (a := m2) hC k6 (by rw [r5.2]; exact v4) dX7_write_45 ?_
        refine x_istore_n (L' := [(3, .int (hI σ5 m2 (Int32.toNatClampNeg p1))), (0, .ref (ρ this)), (1, .int p1), (2, .int p2)]) hC dX7_write_46 (by decide) (by first | rfl | simp (decide := true) [rv_cat, cat_ref, cat_int]) ?_
        refine x_aload_n hC 1 rfl dX7_write_47 ?_
        refine x_getR (n0 := this) hC (ci := 7) (T := TX7) (N := 36) (C := RX7) 2 k5 rfl rfl (by decide) rfl q691 dX7_write_48 ?_
        rw [r5.1]
        rw [show rv ρ (hR σ2 this 2) = Value.ref (ρ m2) from by rw [hm2]; rfl]
        refine x_iload_n hC 2 rfl dX7_write_51 ?_
        refine x_iload_n hC 3 rfl dX7_write_52 ?_
        refine x_iast (a := m2) hC k6 (by rw [r5.2]; exact v4) dX7_write_53 ?_
        refine xJ.nmH (fun σ6 e4 => ?_)
        have h := h σ6 e4
        have r6 : hR σ6 = hR σ2 ∧ hL σ6 = hL σ2 := by rw [e4]; exact ⟨r5.1, r5.2⟩
        refine x_iload_n hC 0 rfl dX7_write_54 ?_
        exact x_iret hC hr dX7_write_55 (by decide) (by decide) ⟨rfl, _, rfl, h⟩
      · have h := h.2 c4
        refine x_iconst (v := 0) hC dX7_write_38 (by decide) ?_
        exact x_iret hC hr dX7_write_39 (by decide) (by decide) ⟨rfl, _, rfl, h⟩
  · have h := h.2 c1
    refine x_iconst (v := 1) hC dX7_write_8 (by decide) ?_
    refine x_goto (tgt := 28) hC dX7_write_9 (by decide) ?_
    obtain ⟨k7, h⟩ := h
    refine x_putI (n0 := this) hC (ci := 7) (T := TX7) (N := 36) (C := RX7) 0 k7 rfl rfl (by decide) rfl q689 rfl (tyX7_ok 0 (by decide)) dX7_write_28 ?_
    refine xJ.nmH (fun σ7 e5 => ?_)
    have h := h σ7 e5
    have r7 : hR σ7 = hR σ1 ∧ hL σ7 = hL σ1 := by rw [e5]; exact ⟨rfl, rfl⟩
    refine x_aload_n hC 0 rfl dX7_write_31 ?_
    have k8 : hK σ7 this = 8 := by rw [e5]; exact k7
    refine x_getI (n0 := this) hC (ci := 7) (T := TX7) (N := 36) (C := RX7) 0 k8 rfl rfl (by decide) rfl q689 dX7_write_32 ?_
    refine x_if_le (tgt := 40) hC dX7_write_35 (by decide) (fun c5 => ?_) (fun c5 => ?_)
    · have h := h.1 c5
      refine x_aload_n hC 0 rfl dX7_write_40 ?_
      refine x_getR (n0 := this) hC (ci := 7) (T := TX7) (N := 36) (C := RX7) 2 k8 rfl rfl (by decide) rfl q691 dX7_write_41 ?_
      rw [r7.1]
      refine x_iload_n hC 1 rfl dX7_write_44 ?_
      obtain ⟨m3, hm3, h⟩ := h
      rw [show rv ρ (hR σ1 this 2) = Value.ref (ρ m3) from by rw [hm3]; rfl]
      obtain ⟨k9, h⟩ := h
      obtain ⟨v5, h⟩ := h
      refine x_iald (a := m3) hC k9 (by rw [r7.2]; exact v5) dX7_write_45 ?_
      refine x_istore_n (L' := [(3, .int (hI σ7 m3 (Int32.toNatClampNeg p1))), (0, .ref (ρ this)), (1, .int p1), (2, .int p2)]) hC dX7_write_46 (by decide) (by first | rfl | simp (decide := true) [rv_cat, cat_ref, cat_int]) ?_
      refine x_aload_n hC 1 rfl dX7_write_47 ?_
      refine x_getR (n0 := this) hC (ci := 7) (T := TX7) (N := 36) (C := RX7) 2 k8 rfl rfl (by decide) rfl q691 dX7_write_48 ?_
      rw [r7.1]
      rw [show rv ρ (hR σ1 this 2) = Value.ref (ρ m3) from by rw [hm3]; rfl]
      refine x_iload_n hC 2 rfl dX7_write_51 ?_
      refine x_iload_n hC 3 rfl dX7_write_52 ?_
      refine x_iast (a := m3) hC k9 (by rw [r7.2]; exact v5) dX7_write_53 ?_
      refine xJ.nmH (fun σ8 e6 => ?_)
      have h := h σ8 e6
      have r8 : hR σ8 = hR σ1 ∧ hL σ8 = hL σ1 := by rw [e6]; exact ⟨r7.1, r7.2⟩
      refine x_iload_n hC 0 rfl dX7_write_54 ?_
      exact x_iret hC hr dX7_write_55 (by decide) (by decide) ⟨rfl, _, rfl, h⟩
    · have h := h.2 c5
      refine x_iconst (v := 0) hC dX7_write_38 (by decide) ?_
      exact x_iret hC hr dX7_write_39 (by decide) (by decide) ⟨rfl, _, rfl, h⟩
/-! PlantServerModel.thrown -/
theorem dX7_thrown_0 : decode cX7_thrown 0 = .ok (.aload_n 0, 1) := by decide +kernel
theorem dX7_thrown_1 : decode cX7_thrown 1 = .ok (.getfield 104, 3) := by decide +kernel
theorem dX7_thrown_4 : decode cX7_thrown 4 = .ok (.ireturn, 1) := by decide +kernel
abbrev rm7_thrown : Room := { frames := 0, cells := 0, slots := 0, locals := 0 }
theorem hd7_thrown : yX7_thrown.cls ≠ "java/lang/invoke/MethodHandle" ∧ yX7_thrown.cls ≠ "java/lang/invoke/VarHandle" ∧ (parseMethodDescriptor yX7_thrown.desc).map (fun d => d.parameters.length) = some 0 := by decide +kernel
set_option maxHeartbeats 4000000 in
set_option maxRecDepth 20000 in
theorem m7_thrown (l : Launch) (hl : l.stackTraces = false) (G : xG) (ρ : Nm → Nat) (this : Nm) (σ : PH) (Q : Int32 → PH → Prop) (h : w7_thrown this σ Q) : xMet l yX7_thrown (.code yX7_thrown cX7_thrown 1 (some .int)) rm7_thrown G ρ σ [.ref (ρ this)] (eI ρ Q) xNo := by
  refine xMet.of hl (by decide +kernel) (Nat.le_of_ble_eq_true rfl) (fun X hC hr hn htab h0 => ?_)
  have hC : xC G X "PlantServerModel" cX7_thrown 1 rm7_thrown := hC
  unfold w7_thrown at h
  refine xJ.loc (L' := [(0, .ref (ρ this))]) rfl ?_
  refine x_aload_n hC 0 rfl dX7_thrown_0 ?_
  obtain ⟨k1, h⟩ := h
  refine x_getI (n0 := this) hC (ci := 7) (T := TX7) (N := 36) (C := RX7) 0 k1 rfl rfl (by decide) rfl q689 dX7_thrown_1 ?_
  exact x_iret hC hr dX7_thrown_4 (by decide) (by decide) ⟨rfl, _, rfl, h⟩
/-! PlantServer$Timer.<init> -/
theorem dX5_init_0 : decode cX5_init 0 = .ok (.aload_n 0, 1) := by decide +kernel
theorem dX5_init_1 : decode cX5_init 1 = .ok (.invokespecial 1, 3) := by decide +kernel
theorem dX5_init_4 : decode cX5_init 4 = .ok (.aload_n 0, 1) := by decide +kernel
theorem dX5_init_5 : decode cX5_init 5 = .ok (.iload_n 1, 1) := by decide +kernel
theorem dX5_init_6 : decode cX5_init 6 = .ok (.putfield 7, 3) := by decide +kernel
theorem dX5_init_9 : decode cX5_init 9 = .ok (.aload_n 0, 1) := by decide +kernel
theorem dX5_init_10 : decode cX5_init 10 = .ok (.iload_n 1, 1) := by decide +kernel
theorem dX5_init_11 : decode cX5_init 11 = .ok (.putfield 13, 3) := by decide +kernel
theorem dX5_init_14 : decode cX5_init 14 = .ok (.return_, 1) := by decide +kernel
abbrev rm5_init : Room := { frames := 1, cells := 0, slots := 0, locals := 20 }
theorem hd5_init : yX5_init.cls ≠ "java/lang/invoke/MethodHandle" ∧ yX5_init.cls ≠ "java/lang/invoke/VarHandle" ∧ (parseMethodDescriptor yX5_init.desc).map (fun d => d.parameters.length) = some 1 := by decide +kernel
set_option maxHeartbeats 4000000 in
set_option maxRecDepth 20000 in
theorem m5_init (l : Launch) (hl : l.stackTraces = false) (G : xG) (ρ : Nm → Nat) (this : Nm) (p1 : Int32) (σ : PH) (Q : PH → Prop) (h : w5_init this p1 σ Q) : xMet l yX5_init (.code yX5_init cX5_init 2 none) rm5_init G ρ σ [.ref (ρ this), .int p1] (eV ρ Q) xNo := by
  refine xMet.of hl (by decide +kernel) (Nat.le_of_ble_eq_true rfl) (fun X hC hr hn htab h0 => ?_)
  have hC : xC G X "PlantServer$Timer" cX5_init 2 rm5_init := hC
  unfold w5_init at h
  refine xJ.loc (L' := [(0, .ref (ρ this)), (1, .int p1)]) rfl ?_
  refine x_aload_n hC 0 rfl dX5_init_0 ?_
  refine x_oinit hC q227 q23 q24 (by decide) (by first | exact Nat.le_of_ble_eq_true rfl | (simp [rv_cat]; done) | (simp (decide := true) [rv_cat, cat_ref, cat_int]; done)) dX5_init_1 ?_
  refine x_aload_n hC 0 rfl dX5_init_4 ?_
  refine x_iload_n hC 1 rfl dX5_init_5 ?_
  obtain ⟨k1, h⟩ := h
  refine x_putIF (n0 := this) hC (ci := 5) (T := TX5) (N := 2) (C := RX5) 0 k1 rfl rfl (by decide) rfl q228 rfl rfl hn (tyX5_ok 0 (by decide)) dX5_init_6 ?_
  refine xJ.nmH (fun σ1 e1 => ?_)
  have h := h σ1 e1
  have r1 : hR σ1 = hR σ ∧ hL σ1 = hL σ := by rw [e1]; exact ⟨rfl, rfl⟩
  refine x_aload_n hC 0 rfl dX5_init_9 ?_
  refine x_iload_n hC 1 rfl dX5_init_10 ?_
  have k2 : hK σ1 this = 6 := by rw [e1]; exact k1
  refine x_putI (n0 := this) hC (ci := 5) (T := TX5) (N := 2) (C := RX5) 1 k2 rfl rfl (by decide) rfl q230 rfl (tyX5_ok 1 (by decide)) dX5_init_11 ?_
  refine xJ.nmH (fun σ2 e2 => ?_)
  have h := h σ2 e2
  have r2 : hR σ2 = hR σ ∧ hL σ2 = hL σ := by rw [e2]; exact ⟨r1.1, r1.2⟩
  exact x_vret hC hr dX5_init_14 (by decide) (by decide) ⟨rfl, rfl, h⟩
/-! PlantServer$Subscription.<init> -/
theorem dX4_init_0 : decode cX4_init 0 = .ok (.aload_n 0, 1) := by decide +kernel
theorem dX4_init_1 : decode cX4_init 1 = .ok (.invokespecial 3, 3) := by decide +kernel
theorem dX4_init_4 : decode cX4_init 4 = .ok (.aload_n 0, 1) := by decide +kernel
theorem dX4_init_5 : decode cX4_init 5 = .ok (.bipush 16, 2) := by decide +kernel
theorem dX4_init_7 : decode cX4_init 7 = .ok (.anewarray 9, 3) := by decide +kernel
theorem dX4_init_10 : decode cX4_init 10 = .ok (.putfield 11, 3) := by decide +kernel
theorem dX4_init_13 : decode cX4_init 13 = .ok (.aload_n 0, 1) := by decide +kernel
theorem dX4_init_14 : decode cX4_init 14 = .ok (.iconst 5, 1) := by decide +kernel
theorem dX4_init_15 : decode cX4_init 15 = .ok (.anewarray 17, 3) := by decide +kernel
theorem dX4_init_18 : decode cX4_init 18 = .ok (.putfield 19, 3) := by decide +kernel
theorem dX4_init_21 : decode cX4_init 21 = .ok (.aload_n 0, 1) := by decide +kernel
theorem dX4_init_22 : decode cX4_init 22 = .ok (.iconst 1, 1) := by decide +kernel
theorem dX4_init_23 : decode cX4_init 23 = .ok (.putfield 23, 3) := by decide +kernel
theorem dX4_init_26 : decode cX4_init 26 = .ok (.aload_n 0, 1) := by decide +kernel
theorem dX4_init_27 : decode cX4_init 27 = .ok (.iconst 0, 1) := by decide +kernel
theorem dX4_init_28 : decode cX4_init 28 = .ok (.putfield 27, 3) := by decide +kernel
theorem dX4_init_31 : decode cX4_init 31 = .ok (.aload_n 0, 1) := by decide +kernel
theorem dX4_init_32 : decode cX4_init 32 = .ok (.iconst 0, 1) := by decide +kernel
theorem dX4_init_33 : decode cX4_init 33 = .ok (.putfield 31, 3) := by decide +kernel
theorem dX4_init_36 : decode cX4_init 36 = .ok (.aload_n 0, 1) := by decide +kernel
theorem dX4_init_37 : decode cX4_init 37 = .ok (.iconst 0, 1) := by decide +kernel
theorem dX4_init_38 : decode cX4_init 38 = .ok (.putfield 34, 3) := by decide +kernel
theorem dX4_init_41 : decode cX4_init 41 = .ok (.aload_n 0, 1) := by decide +kernel
theorem dX4_init_42 : decode cX4_init 42 = .ok (.iconst 0, 1) := by decide +kernel
theorem dX4_init_43 : decode cX4_init 43 = .ok (.putfield 37, 3) := by decide +kernel
theorem dX4_init_46 : decode cX4_init 46 = .ok (.aload_n 0, 1) := by decide +kernel
theorem dX4_init_47 : decode cX4_init 47 = .ok (.iconst 0, 1) := by decide +kernel
theorem dX4_init_48 : decode cX4_init 48 = .ok (.putfield 40, 3) := by decide +kernel
theorem dX4_init_51 : decode cX4_init 51 = .ok (.aload_n 0, 1) := by decide +kernel
theorem dX4_init_52 : decode cX4_init 52 = .ok (.iconst 0, 1) := by decide +kernel
theorem dX4_init_53 : decode cX4_init 53 = .ok (.putfield 43, 3) := by decide +kernel
theorem dX4_init_56 : decode cX4_init 56 = .ok (.aload_n 0, 1) := by decide +kernel
theorem dX4_init_57 : decode cX4_init 57 = .ok (.new 46, 3) := by decide +kernel
theorem dX4_init_60 : decode cX4_init 60 = .ok (.dup, 1) := by decide +kernel
theorem dX4_init_61 : decode cX4_init 61 = .ok (.iload_n 1, 1) := by decide +kernel
theorem dX4_init_62 : decode cX4_init 62 = .ok (.invokespecial 48, 3) := by decide +kernel
theorem dX4_init_65 : decode cX4_init 65 = .ok (.putfield 51, 3) := by decide +kernel
theorem dX4_init_68 : decode cX4_init 68 = .ok (.aload_n 0, 1) := by decide +kernel
theorem dX4_init_69 : decode cX4_init 69 = .ok (.iload_n 2, 1) := by decide +kernel
theorem dX4_init_70 : decode cX4_init 70 = .ok (.putfield 55, 3) := by decide +kernel
theorem dX4_init_73 : decode cX4_init 73 = .ok (.aload_n 0, 1) := by decide +kernel
theorem dX4_init_74 : decode cX4_init 74 = .ok (.iload_n 3, 1) := by decide +kernel
theorem dX4_init_75 : decode cX4_init 75 = .ok (.putfield 58, 3) := by decide +kernel
theorem dX4_init_78 : decode cX4_init 78 = .ok (.aload_n 0, 1) := by decide +kernel
theorem dX4_init_79 : decode cX4_init 79 = .ok (.iload 4, 2) := by decide +kernel
theorem dX4_init_81 : decode cX4_init 81 = .ok (.putfield 61, 3) := by decide +kernel
theorem dX4_init_84 : decode cX4_init 84 = .ok (.aload_n 0, 1) := by decide +kernel
theorem dX4_init_85 : decode cX4_init 85 = .ok (.iload 5, 2) := by decide +kernel
theorem dX4_init_87 : decode cX4_init 87 = .ok (.putfield 64, 3) := by decide +kernel
theorem dX4_init_90 : decode cX4_init 90 = .ok (.return_, 1) := by decide +kernel
abbrev rm4_init : Room := { frames := 2, cells := 3, slots := 23, locals := 41 }
theorem hd4_init : yX4_init.cls ≠ "java/lang/invoke/MethodHandle" ∧ yX4_init.cls ≠ "java/lang/invoke/VarHandle" ∧ (parseMethodDescriptor yX4_init.desc).map (fun d => d.parameters.length) = some 5 := by decide +kernel
set_option maxHeartbeats 4000000 in
set_option maxRecDepth 20000 in
theorem m4_init (l : Launch) (hl : l.stackTraces = false) (G : xG) (ρ : Nm → Nat) (this : Nm) (p1 : Int32) (p2 : Int32) (p3 : Int32) (p4 : Int32) (p5 : Int32) (σ : PH) (Q : PH → Prop) (h : w4_init this p1 p2 p3 p4 p5 σ Q) : xMet l yX4_init (.code yX4_init cX4_init 6 none) rm4_init G ρ σ [.ref (ρ this), .int p1, .int p2, .int p3, .int p4, .int p5] (eVA Q) xNo := by
  refine xMet.of hl (by decide +kernel) (Nat.le_of_ble_eq_true rfl) (fun X hC hr hn htab h0 => ?_)
  have hC : xC G X "PlantServer$Subscription" cX4_init 6 rm4_init := hC
  unfold w4_init at h
  refine xJ.loc (L' := [(0, .ref (ρ this)), (1, .int p1), (2, .int p2), (3, .int p3), (4, .int p4), (5, .int p5)]) rfl ?_
  refine x_aload_n hC 0 rfl dX4_init_0 ?_
  refine x_oinit hC q218 q23 q24 (by decide) (by first | exact Nat.le_of_ble_eq_true rfl | (simp [rv_cat]; done) | (simp (decide := true) [rv_cat, cat_ref, cat_int]; done)) dX4_init_1 ?_
  refine x_aload_n hC 0 rfl dX4_init_4 ?_
  refine x_bipush (v := 16) hC dX4_init_5 (by decide) ?_
  obtain ⟨n1, hz1, h⟩ := h
  obtain ⟨z1, h⟩ := h
  refine x_newq (kd := 11) (N := 16) (by decide) hC n1 hz1 (by decide) (by decide) q219 (by decide) (by decide) dX4_init_7 (fun ρ1 hρ1 => ?_)
  rw [← hρ1 this z1]
  refine xJ.nmH (fun σ1 e1 => ?_)
  have h := h σ1 e1
  have k1 : hK σ1 n1 = 11 := by rw [e1]; exact sN_c
  obtain ⟨k2, h⟩ := h
  refine x_putRF (m0 := n1) (n0 := this) hC (ci := 4) (T := TX4) (N := 14) (C := RX4) 5 k2 rfl rfl (by decide) rfl q243 rfl rfl hn (tyX4_ok 5 (by decide)) rfl rfl (by rw [k1]; decide) dX4_init_10 ?_
  refine xJ.nmH (fun σ2 e2 => ?_)
  have h := h σ2 e2
  have r1 : hR σ2 = hR σ2 ∧ hL σ2 = hL σ1 := by rw [e2]; exact ⟨rfl, rfl⟩
  refine x_aload_n hC 0 rfl dX4_init_13 ?_
  refine x_iconst (v := 5) hC dX4_init_14 (by decide) ?_
  obtain ⟨n2, hz2, h⟩ := h
  have k3 : hK σ2 this = 5 := by rw [e2]; exact k2
  refine x_newq (kd := 12) (N := 5) (by decide) hC n2 hz2 (by decide) (by decide) q220 (by decide) (by decide) dX4_init_15 (fun ρ2 hρ2 => ?_)
  rw [← hρ2 this (by rw [k3]; decide)]
  refine xJ.nmH (fun σ3 e3 => ?_)
  have h := h σ3 e3
  have k4 : hK σ3 n2 = 12 := by rw [e3]; exact sN_c
  have k5 : hK σ3 this = 5 := by rw [e3]; exact sN_k hz2 k3 (by decide)
  refine x_putRF (m0 := n2) (n0 := this) hC (ci := 4) (T := TX4) (N := 14) (C := RX4) 6 k5 rfl rfl (by decide) rfl q244 rfl rfl hn (tyX4_ok 6 (by decide)) rfl rfl (by rw [k4]; decide) dX4_init_18 ?_
  refine xJ.nmH (fun σ4 e4 => ?_)
  have h := h σ4 e4
  have r2 : hR σ4 = hR σ4 ∧ hL σ4 = hL σ3 := by rw [e4]; exact ⟨rfl, rfl⟩
  refine x_aload_n hC 0 rfl dX4_init_21 ?_
  refine x_iconst (v := 1) hC dX4_init_22 (by decide) ?_
  have k6 : hK σ4 this = 5 := by rw [e4]; exact k5
  refine x_putZ (n0 := this) hC (ci := 4) (T := TX4) (N := 14) (C := RX4) 7 k6 rfl rfl (by decide) rfl q245 rfl (tyX4_ok 7 (by decide)) zb1 dX4_init_23 ?_
  refine xJ.nmH (fun σ5 e5 => ?_)
  have h := h σ5 e5
  have r3 : hR σ5 = hR σ4 ∧ hL σ5 = hL σ3 := by rw [e5]; exact ⟨r2.1, r2.2⟩
  refine x_aload_n hC 0 rfl dX4_init_26 ?_
  refine x_iconst (v := 0) hC dX4_init_27 (by decide) ?_
  have k7 : hK σ5 this = 5 := by rw [e5]; exact k6
  refine x_putI (n0 := this) hC (ci := 4) (T := TX4) (N := 14) (C := RX4) 8 k7 rfl rfl (by decide) rfl q247 rfl (tyX4_ok 8 (by decide)) dX4_init_28 ?_
  refine xJ.nmH (fun σ6 e6 => ?_)
  have h := h σ6 e6
  have r4 : hR σ6 = hR σ4 ∧ hL σ6 = hL σ3 := by rw [e6]; exact ⟨r3.1, r3.2⟩
  refine x_aload_n hC 0 rfl dX4_init_31 ?_
  refine x_iconst (v := 0) hC dX4_init_32 (by decide) ?_
  have k8 : hK σ6 this = 5 := by rw [e6]; exact k7
  refine x_putI (n0 := this) hC (ci := 4) (T := TX4) (N := 14) (C := RX4) 9 k8 rfl rfl (by decide) rfl q249 rfl (tyX4_ok 9 (by decide)) dX4_init_33 ?_
  refine xJ.nmH (fun σ7 e7 => ?_)
  have h := h σ7 e7
  have r5 : hR σ7 = hR σ4 ∧ hL σ7 = hL σ3 := by rw [e7]; exact ⟨r4.1, r4.2⟩
  refine x_aload_n hC 0 rfl dX4_init_36 ?_
  refine x_iconst (v := 0) hC dX4_init_37 (by decide) ?_
  have k9 : hK σ7 this = 5 := by rw [e7]; exact k8
  refine x_putI (n0 := this) hC (ci := 4) (T := TX4) (N := 14) (C := RX4) 10 k9 rfl rfl (by decide) rfl q250 rfl (tyX4_ok 10 (by decide)) dX4_init_38 ?_
  refine xJ.nmH (fun σ8 e8 => ?_)
  have h := h σ8 e8
  have r6 : hR σ8 = hR σ4 ∧ hL σ8 = hL σ3 := by rw [e8]; exact ⟨r5.1, r5.2⟩
  refine x_aload_n hC 0 rfl dX4_init_41 ?_
  refine x_iconst (v := 0) hC dX4_init_42 (by decide) ?_
  have k10 : hK σ8 this = 5 := by rw [e8]; exact k9
  refine x_putI (n0 := this) hC (ci := 4) (T := TX4) (N := 14) (C := RX4) 11 k10 rfl rfl (by decide) rfl q252 rfl (tyX4_ok 11 (by decide)) dX4_init_43 ?_
  refine xJ.nmH (fun σ9 e9 => ?_)
  have h := h σ9 e9
  have r7 : hR σ9 = hR σ4 ∧ hL σ9 = hL σ3 := by rw [e9]; exact ⟨r6.1, r6.2⟩
  refine x_aload_n hC 0 rfl dX4_init_46 ?_
  refine x_iconst (v := 0) hC dX4_init_47 (by decide) ?_
  have k11 : hK σ9 this = 5 := by rw [e9]; exact k10
  refine x_putI (n0 := this) hC (ci := 4) (T := TX4) (N := 14) (C := RX4) 12 k11 rfl rfl (by decide) rfl q254 rfl (tyX4_ok 12 (by decide)) dX4_init_48 ?_
  refine xJ.nmH (fun σ10 e10 => ?_)
  have h := h σ10 e10
  have r8 : hR σ10 = hR σ4 ∧ hL σ10 = hL σ3 := by rw [e10]; exact ⟨r7.1, r7.2⟩
  refine x_aload_n hC 0 rfl dX4_init_51 ?_
  refine x_iconst (v := 0) hC dX4_init_52 (by decide) ?_
  have k12 : hK σ10 this = 5 := by rw [e10]; exact k11
  refine x_putI (n0 := this) hC (ci := 4) (T := TX4) (N := 14) (C := RX4) 13 k12 rfl rfl (by decide) rfl q255 rfl (tyX4_ok 13 (by decide)) dX4_init_53 ?_
  refine xJ.nmH (fun σ11 e11 => ?_)
  have h := h σ11 e11
  have r9 : hR σ11 = hR σ4 ∧ hL σ11 = hL σ3 := by rw [e11]; exact ⟨r8.1, r8.2⟩
  refine x_aload_n hC 0 rfl dX4_init_56 ?_
  obtain ⟨n3, hz3, h⟩ := h
  have k13 : hK σ11 this = 5 := by rw [e11]; exact k12
  refine x_new (ci := 5) (T := TX5) (N := 2) (C := RX5) hC n3 hz3 rfl xdf5 q222 q223 q11 (by decide) (by decide) dX4_init_57 (fun ρ3 hρ3 => ?_)
  rw [← hρ3 this (by rw [k13]; decide)]
  refine xJ.nmH (fun σ12 e12 => ?_)
  have h := h σ12 e12
  have k14 : hK σ12 n3 = 6 := by rw [e12]; exact sN_c
  refine x_dup hC (by first | rfl | exact rv_cat) dX4_init_60 ?_
  refine x_iload_n hC 1 rfl dX4_init_61 ?_
  refine x_callI (as := [.int p1]) (rest := [.ref (ρ3 n3), .ref (ρ3 this)]) hC (fun l hl => m5_init l hl G ρ3 n3 p1 σ12 _ h) q224 q225 q11 q226 rfl hd5_init (by decide) ⟨(by decide), (by decide)⟩ (by first | exact Nat.le_of_ble_eq_true rfl | (simp [rv_cat]; done) | (simp (decide := true) [rv_cat, cat_ref, cat_int]; done)) rfl dX4_init_62 (fun E σ9 hx => False.elim hx) (fun v1 σ13 ρ4 hp1 hag1 => ?_)
  obtain ⟨e9, e8, h⟩ := hp1
  rw [e8, e9]
  refine xJ.nrm (k' := 3) (n' := 23) (pc' := 65) (st' := [.ref (ρ3 n3), .ref (ρ3 this)]) rfl rfl rfl rfl ?_
  have k15 : hK σ12 this = 5 := by rw [e12]; exact sN_k hz3 k13 (by decide)
  have k16 : hK σ13 this = 5 := (hag1 this (by rw [k15]; decide)).1.trans k15
  have k17 : hK σ13 n3 = 6 := (hag1 n3 (by rw [k14]; decide)).1.trans k14
  refine x_putRF (m0 := n3) (n0 := this) hC (ci := 4) (T := TX4) (N := 14) (C := RX4) 0 k16 rfl rfl (by decide) rfl q236 rfl rfl hn (tyX4_ok 0 (by decide)) rfl rfl (by rw [k17]; decide) dX4_init_65 ?_
  refine xJ.nmH (fun σ14 e13 => ?_)
  have h := h σ14 e13
  have r10 : hR σ14 = hR σ14 ∧ hL σ14 = hL σ13 := by rw [e13]; exact ⟨rfl, rfl⟩
  refine x_aload_n hC 0 rfl dX4_init_68 ?_
  refine x_iload_n hC 2 rfl dX4_init_69 ?_
  have k18 : hK σ14 this = 5 := by rw [e13]; exact k16
  refine x_putIF (n0 := this) hC (ci := 4) (T := TX4) (N := 14) (C := RX4) 1 k18 rfl rfl (by decide) rfl q238 rfl rfl hn (tyX4_ok 1 (by decide)) dX4_init_70 ?_
  refine xJ.nmH (fun σ15 e14 => ?_)
  have h := h σ15 e14
  have r11 : hR σ15 = hR σ14 ∧ hL σ15 = hL σ13 := by rw [e14]; exact ⟨r10.1, r10.2⟩
  refine x_aload_n hC 0 rfl dX4_init_73 ?_
  refine x_iload_n hC 3 rfl dX4_init_74 ?_
  have k19 : hK σ15 this = 5 := by rw [e14]; exact k18
  refine x_putIF (n0 := this) hC (ci := 4) (T := TX4) (N := 14) (C := RX4) 2 k19 rfl rfl (by decide) rfl q239 rfl rfl hn (tyX4_ok 2 (by decide)) dX4_init_75 ?_
  refine xJ.nmH (fun σ16 e15 => ?_)
  have h := h σ16 e15
  have r12 : hR σ16 = hR σ14 ∧ hL σ16 = hL σ13 := by rw [e15]; exact ⟨r11.1, r11.2⟩
  refine x_aload_n hC 0 rfl dX4_init_78 ?_
  refine x_iload hC 4 rfl dX4_init_79 ?_
  have k20 : hK σ16 this = 5 := by rw [e15]; exact k19
  refine x_putIF (n0 := this) hC (ci := 4) (T := TX4) (N := 14) (C := RX4) 3 k20 rfl rfl (by decide) rfl q240 rfl rfl hn (tyX4_ok 3 (by decide)) dX4_init_81 ?_
  refine xJ.nmH (fun σ17 e16 => ?_)
  have h := h σ17 e16
  have r13 : hR σ17 = hR σ14 ∧ hL σ17 = hL σ13 := by rw [e16]; exact ⟨r12.1, r12.2⟩
  refine x_aload_n hC 0 rfl dX4_init_84 ?_
  refine x_iload hC 5 rfl dX4_init_85 ?_
  have k21 : hK σ17 this = 5 := by rw [e16]; exact k20
  refine x_putIF (n0 := this) hC (ci := 4) (T := TX4) (N := 14) (C := RX4) 4 k21 rfl rfl (by decide) rfl q242 rfl rfl hn (tyX4_ok 4 (by decide)) dX4_init_87 ?_
  refine xJ.nmH (fun σ18 e17 => ?_)
  have h := h σ18 e17
  have r14 : hR σ18 = hR σ14 ∧ hL σ18 = hL σ13 := by rw [e17]; exact ⟨r13.1, r13.2⟩
  exact x_vret hC hr dX4_init_90 (by decide) (by decide) ⟨rfl, h⟩
/-! PlantServer.putInTurn -/
theorem dX6_putInTurn_0 : decode cX6_putInTurn 0 = .ok (.iload_n 2, 1) := by decide +kernel
theorem dX6_putInTurn_1 : decode cX6_putInTurn 1 = .ok (.istore_n 3, 1) := by decide +kernel
theorem dX6_putInTurn_2 : decode cX6_putInTurn 2 = .ok (.iload_n 3, 1) := by decide +kernel
theorem dX6_putInTurn_3 : decode cX6_putInTurn 3 = .ok (.ifCond .le 47, 3) := by decide +kernel
theorem dX6_putInTurn_6 : decode cX6_putInTurn 6 = .ok (.aload_n 0, 1) := by decide +kernel
theorem dX6_putInTurn_7 : decode cX6_putInTurn 7 = .ok (.getfield 19, 3) := by decide +kernel
theorem dX6_putInTurn_10 : decode cX6_putInTurn 10 = .ok (.iload_n 3, 1) := by decide +kernel
theorem dX6_putInTurn_11 : decode cX6_putInTurn 11 = .ok (.iconst 1, 1) := by decide +kernel
theorem dX6_putInTurn_12 : decode cX6_putInTurn 12 = .ok (.isub, 1) := by decide +kernel
theorem dX6_putInTurn_13 : decode cX6_putInTurn 13 = .ok (.aaload, 1) := by decide +kernel
theorem dX6_putInTurn_14 : decode cX6_putInTurn 14 = .ok (.astore 4, 2) := by decide +kernel
theorem dX6_putInTurn_16 : decode cX6_putInTurn 16 = .ok (.aload 4, 2) := by decide +kernel
theorem dX6_putInTurn_18 : decode cX6_putInTurn 18 = .ok (.ifnull 32, 3) := by decide +kernel
theorem dX6_putInTurn_21 : decode cX6_putInTurn 21 = .ok (.aload 4, 2) := by decide +kernel
theorem dX6_putInTurn_23 : decode cX6_putInTurn 23 = .ok (.getfield 205, 3) := by decide +kernel
theorem dX6_putInTurn_26 : decode cX6_putInTurn 26 = .ok (.aload_n 1, 1) := by decide +kernel
theorem dX6_putInTurn_27 : decode cX6_putInTurn 27 = .ok (.getfield 205, 3) := by decide +kernel
theorem dX6_putInTurn_30 : decode cX6_putInTurn 30 = .ok (.if_icmp .lt 6, 3) := by decide +kernel
theorem dX6_putInTurn_33 : decode cX6_putInTurn 33 = .ok (.goto 17, 3) := by decide +kernel
theorem dX6_putInTurn_36 : decode cX6_putInTurn 36 = .ok (.aload_n 0, 1) := by decide +kernel
theorem dX6_putInTurn_37 : decode cX6_putInTurn 37 = .ok (.getfield 19, 3) := by decide +kernel
theorem dX6_putInTurn_40 : decode cX6_putInTurn 40 = .ok (.iload_n 3, 1) := by decide +kernel
theorem dX6_putInTurn_41 : decode cX6_putInTurn 41 = .ok (.aload 4, 2) := by decide +kernel
theorem dX6_putInTurn_43 : decode cX6_putInTurn 43 = .ok (.aastore, 1) := by decide +kernel
theorem dX6_putInTurn_44 : decode cX6_putInTurn 44 = .ok (.iinc 3 (-1), 3) := by decide +kernel
theorem dX6_putInTurn_47 : decode cX6_putInTurn 47 = .ok (.goto (-45), 3) := by decide +kernel
theorem dX6_putInTurn_50 : decode cX6_putInTurn 50 = .ok (.aload_n 0, 1) := by decide +kernel
theorem dX6_putInTurn_51 : decode cX6_putInTurn 51 = .ok (.getfield 19, 3) := by decide +kernel
theorem dX6_putInTurn_54 : decode cX6_putInTurn 54 = .ok (.iload_n 3, 1) := by decide +kernel
theorem dX6_putInTurn_55 : decode cX6_putInTurn 55 = .ok (.aload_n 1, 1) := by decide +kernel
theorem dX6_putInTurn_56 : decode cX6_putInTurn 56 = .ok (.aastore, 1) := by decide +kernel
theorem dX6_putInTurn_57 : decode cX6_putInTurn 57 = .ok (.return_, 1) := by decide +kernel
abbrev rm6_putInTurn : Room := { frames := 0, cells := 0, slots := 0, locals := 0 }
theorem hd6_putInTurn : yX6_putInTurn.cls ≠ "java/lang/invoke/MethodHandle" ∧ yX6_putInTurn.cls ≠ "java/lang/invoke/VarHandle" ∧ (parseMethodDescriptor yX6_putInTurn.desc).map (fun d => d.parameters.length) = some 2 := by decide +kernel
set_option maxHeartbeats 4000000 in
set_option maxRecDepth 20000 in
theorem ml6_putInTurn_2 {G : xG} {X : xX} (hC : xC G X "PlantServer" cX6_putInTurn 5 rm6_putInTurn) (hr : xRt X none) (htab : xTab X []) (this : Nm) (a1 : Nm) (p2 : Int32) {ρ : Nm → Nat} (h0 : xR0 X ρ) (k n : Nat) (hk1 : k ≤ 0) (hk2 : n ≤ 0) (K : Int32 → PH → Prop) (Q : PH → Prop) (Xp : String → PH → Prop) : ∀ (f2 : Nat) (x2_3 : Int32) (τ2 : PH), l6_putInTurn_2 this a1 p2 K Q f2 x2_3 τ2 → (∀ (x2_3 : Int32) (τ2 : PH), K x2_3 τ2 → xJ G X (xT X (eV ρ Q) Xp G rm6_putInTurn) 5 ρ τ2 k n 50 [(0, .ref (ρ this)), (1, .ref (ρ a1)), (3, .int x2_3)] []) → xJ G X (xT X (eV ρ Q) Xp G rm6_putInTurn) 5 ρ τ2 k n 2 [(0, .ref (ρ this)), (1, .ref (ρ a1)), (3, .int x2_3)] [] := by
  intro f2
  induction f2 with
  | zero => intro x2_3 τ2 h hKK; unfold l6_putInTurn_2 at h; exact h.elim
  | succ f2 ih =>
    intro x2_3 τ2 h hKK
    unfold l6_putInTurn_2 at h
    refine x_iload_n hC 2 rfl dX6_putInTurn_2 ?_
    refine x_if_le (tgt := 50) hC dX6_putInTurn_3 (by decide) (fun c1 => ?_) (fun c1 => ?_)
    · have h := h.1 c1
      exact hKK _ _ h
    · have h := h.2 c1
      refine x_aload_n hC 0 rfl dX6_putInTurn_6 ?_
      obtain ⟨k1, h⟩ := h
      refine x_getR (n0 := this) hC (ci := 6) (T := TX6) (N := 9) (C := RX6) 2 k1 rfl rfl (by decide) rfl q52 dX6_putInTurn_7 ?_
      refine x_iload_n hC 2 rfl dX6_putInTurn_10 ?_
      refine x_iconst (v := 1) hC dX6_putInTurn_11 (by decide) ?_
      refine x_isub hC dX6_putInTurn_12 ?_
      obtain ⟨m1, hm1, h⟩ := h
      rw [show rv ρ (hR τ2 this 2) = Value.ref (ρ m1) from by rw [hm1]; rfl]
      obtain ⟨k2, h⟩ := h
      obtain ⟨v1, h⟩ := h
      refine x_aald13 (a := m1) hC k2 v1 dX6_putInTurn_13 ?_
      refine x_astoreQ (o := hR τ2 m1 (Int32.toNatClampNeg (x2_3 - 1))) (L' := [(4, rv ρ (hR τ2 m1 (Int32.toNatClampNeg (x2_3 - 1)))), (0, .ref (ρ this)), (1, .ref (ρ a1)), (3, .int x2_3)]) hC dX6_putInTurn_14 (by decide) (by first | rfl | simp (decide := true) [rv_cat, cat_ref, cat_int]) ?_
      refine x_aloadQ (o := hR τ2 m1 (Int32.toNatClampNeg (x2_3 - 1))) hC 0 rfl dX6_putInTurn_16 ?_
      refine x_ifnull (o := hR τ2 m1 (Int32.toNatClampNeg (x2_3 - 1))) (tgt := 50) hC dX6_putInTurn_18 (by decide) (fun c2 => ?_) (fun m2 c2 => ?_)
      · have h := h.1 c2
        rw [show rv ρ (hR τ2 m1 (Int32.toNatClampNeg (x2_3 - 1))) = Value.null from by rw [c2]; rfl]
        refine xJ.sub (L' := [(0, .ref (ρ this)), (1, .ref (ρ a1)), (3, .int x2_3)]) [1, 2, 3] rfl ?_
        exact hKK _ _ h
      · have h := h.2 m2 c2
        rw [show rv ρ (hR τ2 m1 (Int32.toNatClampNeg (x2_3 - 1))) = Value.ref (ρ m2) from by rw [c2]; rfl]
        refine x_aload hC 0 rfl dX6_putInTurn_21 ?_
        obtain ⟨k3, h⟩ := h
        refine x_getI (n0 := m2) hC (ci := 4) (T := TX4) (N := 14) (C := RX4) 3 k3 rfl rfl (by decide) rfl q241 dX6_putInTurn_23 ?_
        refine x_aload_n hC 2 rfl dX6_putInTurn_26 ?_
        obtain ⟨k4, h⟩ := h
        refine x_getI (n0 := a1) hC (ci := 4) (T := TX4) (N := 14) (C := RX4) 3 k4 rfl rfl (by decide) rfl q241 dX6_putInTurn_27 ?_
        refine x_icmp_lt (tgt := 36) hC dX6_putInTurn_30 (by decide) (fun c3 => ?_) (fun c3 => ?_)
        · have h := h.1 c3
          refine x_aload_n hC 1 rfl dX6_putInTurn_36 ?_
          refine x_getR (n0 := this) hC (ci := 6) (T := TX6) (N := 9) (C := RX6) 2 k1 rfl rfl (by decide) rfl q52 dX6_putInTurn_37 ?_
          rw [show rv ρ (hR τ2 this 2) = Value.ref (ρ m1) from by rw [hm1]; rfl]
          refine x_iload_n hC 3 rfl dX6_putInTurn_40 ?_
          refine x_aload hC 0 rfl dX6_putInTurn_41 ?_
          obtain ⟨v2, h⟩ := h
          refine x_aast13 (a := m1) (o := some m2) hC (fun m hm => by cases hm; exact k3) k2 v2 dX6_putInTurn_43 ?_
          refine xJ.nmH (fun σ1 e1 => ?_)
          have h := h σ1 e1
          have r1 : hR σ1 = hR σ1 ∧ hL σ1 = hL τ2 := by rw [e1]; exact ⟨rfl, rfl⟩
          refine x_iinc (v' := x2_3 + (-1)) (L' := [(3, .int (x2_3 + (-1))), (4, .ref (ρ m2)), (0, .ref (ρ this)), (1, .ref (ρ a1))]) hC 3 rfl dX6_putInTurn_44 rfl (by decide) (by first | rfl | simp (decide := true) [rv_cat, cat_ref, cat_int]) ?_
          refine x_goto (tgt := 2) hC dX6_putInTurn_47 (by decide) ?_
          refine xJ.sub (L' := [(0, .ref (ρ this)), (1, .ref (ρ a1)), (3, .int (x2_3 + (-1)))]) [2, 3, 0] rfl ?_
          exact ih _ _ h hKK
        · have h := h.2 c3
          refine x_goto (tgt := 50) hC dX6_putInTurn_33 (by decide) ?_
          refine xJ.sub (L' := [(0, .ref (ρ this)), (1, .ref (ρ a1)), (3, .int x2_3)]) [1, 2, 3] rfl ?_
          exact hKK _ _ h
set_option maxHeartbeats 4000000 in
set_option maxRecDepth 20000 in
theorem m6_putInTurn (l : Launch) (hl : l.stackTraces = false) (G : xG) (ρ : Nm → Nat) (this : Nm) (a1 : Nm) (p2 : Int32) (σ : PH) (Q : PH → Prop) (h : w6_putInTurn this a1 p2 σ Q) : xMet l yX6_putInTurn (.code yX6_putInTurn cX6_putInTurn 5 none) rm6_putInTurn G ρ σ [.ref (ρ this), .ref (ρ a1), .int p2] (eV ρ Q) xNo := by
  refine xMet.of hl (by decide +kernel) (Nat.le_of_ble_eq_true rfl) (fun X hC hr hn htab h0 => ?_)
  have hC : xC G X "PlantServer" cX6_putInTurn 5 rm6_putInTurn := hC
  unfold w6_putInTurn at h
  refine xJ.loc (L' := [(0, .ref (ρ this)), (1, .ref (ρ a1)), (2, .int p2)]) rfl ?_
  refine x_iload_n hC 2 rfl dX6_putInTurn_0 ?_
  refine x_istore_n (L' := [(3, .int p2), (0, .ref (ρ this)), (1, .ref (ρ a1)), (2, .int p2)]) hC dX6_putInTurn_1 (by decide) (by first | rfl | simp (decide := true) [rv_cat, cat_ref, cat_int]) ?_
  refine xJ.sub (L' := [(0, .ref (ρ this)), (1, .ref (ρ a1)), (3, .int p2)]) [1, 2, 0] rfl ?_
  obtain ⟨f2, h⟩ := h
  refine ml6_putInTurn_2 hC hr htab this a1 p2 h0 (0) (0) (by decide) (by decide) _ Q _ f2 _ _ h (fun y1 τ1 h => ?_)
  refine x_aload_n hC 0 rfl dX6_putInTurn_50 ?_
  obtain ⟨k5, h⟩ := h
  refine x_getR (n0 := this) hC (ci := 6) (T := TX6) (N := 9) (C := RX6) 2 k5 rfl rfl (by decide) rfl q52 dX6_putInTurn_51 ?_
  refine x_iload_n hC 2 rfl dX6_putInTurn_54 ?_
  refine x_aload_n hC 1 rfl dX6_putInTurn_55 ?_
  obtain ⟨m3, hm2, h⟩ := h
  rw [show rv ρ (hR τ1 this 2) = Value.ref (ρ m3) from by rw [hm2]; rfl]
  obtain ⟨k6, h⟩ := h
  obtain ⟨v3, h⟩ := h
  obtain ⟨k7, h⟩ := h
  refine x_aast13 (a := m3) (o := some a1) hC (fun m hm => by cases hm; exact k7) k6 v3 dX6_putInTurn_56 ?_
  refine xJ.nmH (fun σ2 e2 => ?_)
  have h := h σ2 e2
  have r2 : hR σ2 = hR σ2 ∧ hL σ2 = hL τ1 := by rw [e2]; exact ⟨rfl, rfl⟩
  exact x_vret hC hr dX6_putInTurn_57 (by decide) (by decide) ⟨rfl, rfl, h⟩
