/-! PlantServer$Item.giveTo -/
theorem dX1_giveTo_0 : decode cX1_giveTo 0 = .ok (.aload_n 0, 1) := by decide +kernel
theorem dX1_giveTo_1 : decode cX1_giveTo 1 = .ok (.getfield 51, 3) := by decide +kernel
theorem dX1_giveTo_4 : decode cX1_giveTo 4 = .ok (.getfield 68, 3) := by decide +kernel
theorem dX1_giveTo_7 : decode cX1_giveTo 7 = .ok (.iload_n 2, 1) := by decide +kernel
theorem dX1_giveTo_8 : decode cX1_giveTo 8 = .ok (.aload_n 1, 1) := by decide +kernel
theorem dX1_giveTo_9 : decode cX1_giveTo 9 = .ok (.getfield 73, 3) := by decide +kernel
theorem dX1_giveTo_12 : decode cX1_giveTo 12 = .ok (.isub, 1) := by decide +kernel
theorem dX1_giveTo_13 : decode cX1_giveTo 13 = .ok (.invokestatic 76, 3) := by decide +kernel
theorem dX1_giveTo_16 : decode cX1_giveTo 16 = .ok (.istore_n 3, 1) := by decide +kernel
theorem dX1_giveTo_17 : decode cX1_giveTo 17 = .ok (.iconst 0, 1) := by decide +kernel
theorem dX1_giveTo_18 : decode cX1_giveTo 18 = .ok (.istore 4, 2) := by decide +kernel
theorem dX1_giveTo_20 : decode cX1_giveTo 20 = .ok (.iload 4, 2) := by decide +kernel
theorem dX1_giveTo_22 : decode cX1_giveTo 22 = .ok (.iload_n 3, 1) := by decide +kernel
theorem dX1_giveTo_23 : decode cX1_giveTo 23 = .ok (.if_icmp .ge 42, 3) := by decide +kernel
theorem dX1_giveTo_26 : decode cX1_giveTo 26 = .ok (.aload_n 1, 1) := by decide +kernel
theorem dX1_giveTo_27 : decode cX1_giveTo 27 = .ok (.aload_n 0, 1) := by decide +kernel
theorem dX1_giveTo_28 : decode cX1_giveTo 28 = .ok (.getfield 29, 3) := by decide +kernel
theorem dX1_giveTo_31 : decode cX1_giveTo 31 = .ok (.aload_n 0, 1) := by decide +kernel
theorem dX1_giveTo_32 : decode cX1_giveTo 32 = .ok (.getfield 51, 3) := by decide +kernel
theorem dX1_giveTo_35 : decode cX1_giveTo 35 = .ok (.getfield 80, 3) := by decide +kernel
theorem dX1_giveTo_38 : decode cX1_giveTo 38 = .ok (.iconst 0, 1) := by decide +kernel
theorem dX1_giveTo_39 : decode cX1_giveTo 39 = .ok (.iaload, 1) := by decide +kernel
theorem dX1_giveTo_40 : decode cX1_giveTo 40 = .ok (.aload_n 0, 1) := by decide +kernel
theorem dX1_giveTo_41 : decode cX1_giveTo 41 = .ok (.getfield 51, 3) := by decide +kernel
theorem dX1_giveTo_44 : decode cX1_giveTo 44 = .ok (.getfield 84, 3) := by decide +kernel
theorem dX1_giveTo_47 : decode cX1_giveTo 47 = .ok (.iconst 0, 1) := by decide +kernel
theorem dX1_giveTo_48 : decode cX1_giveTo 48 = .ok (.baload, 1) := by decide +kernel
theorem dX1_giveTo_49 : decode cX1_giveTo 49 = .ok (.invokevirtual 88, 3) := by decide +kernel
theorem dX1_giveTo_52 : decode cX1_giveTo 52 = .ok (.aload_n 0, 1) := by decide +kernel
theorem dX1_giveTo_53 : decode cX1_giveTo 53 = .ok (.getfield 51, 3) := by decide +kernel
theorem dX1_giveTo_56 : decode cX1_giveTo 56 = .ok (.invokevirtual 92, 3) := by decide +kernel
theorem dX1_giveTo_59 : decode cX1_giveTo 59 = .ok (.iinc 4 1, 3) := by decide +kernel
theorem dX1_giveTo_62 : decode cX1_giveTo 62 = .ok (.goto (-42), 3) := by decide +kernel
theorem dX1_giveTo_65 : decode cX1_giveTo 65 = .ok (.return_, 1) := by decide +kernel
abbrev rm1_giveTo : Room := { frames := 1, cells := 0, slots := 0, locals := 23 }
theorem hd1_giveTo : yX1_giveTo.cls ≠ "java/lang/invoke/MethodHandle" ∧ yX1_giveTo.cls ≠ "java/lang/invoke/VarHandle" ∧ (parseMethodDescriptor yX1_giveTo.desc).map (fun d => d.parameters.length) = some 2 := by decide +kernel
set_option maxHeartbeats 4000000 in
set_option maxRecDepth 20000 in
theorem ml1_giveTo_20 {G : xG} {X : xX} (hC : xC G X "PlantServer$Item" cX1_giveTo 5 rm1_giveTo) (hr : xRt X none) (htab : xTab X []) (this : Nm) (a1 : Nm) (x1 : Int32) {ρ : Nm → Nat} (h0 : xR0 X ρ) (k n : Nat) (hk1 : k ≤ 0) (hk2 : n ≤ 0) (K : Int32 → PH → Prop) (Q : PH → Prop) (Xp : String → PH → Prop) : ∀ (f20 : Nat) (x20_4 : Int32) (τ20 : PH), l1_giveTo_20 this a1 x1 K Q f20 x20_4 τ20 → (∀ (x20_4 : Int32) (τ20 : PH), K x20_4 τ20 → xJ G X (xT X (eV ρ Q) Xp G rm1_giveTo) 5 ρ τ20 k n 65 [(0, .ref (ρ this)), (1, .ref (ρ a1)), (3, .int x1), (4, .int x20_4)] []) → xJ G X (xT X (eV ρ Q) Xp G rm1_giveTo) 5 ρ τ20 k n 20 [(0, .ref (ρ this)), (1, .ref (ρ a1)), (3, .int x1), (4, .int x20_4)] [] := by
  intro f20
  induction f20 with
  | zero => intro x20_4 τ20 h hKK; unfold l1_giveTo_20 at h; exact h.elim
  | succ f20 ih =>
    intro x20_4 τ20 h hKK
    unfold l1_giveTo_20 at h
    refine x_iload hC 3 rfl dX1_giveTo_20 ?_
    refine x_iload_n hC 2 rfl dX1_giveTo_22 ?_
    refine x_icmp_ge (tgt := 65) hC dX1_giveTo_23 (by decide) (fun c1 => ?_) (fun c1 => ?_)
    · have h := h.1 c1
      exact hKK _ _ h
    · have h := h.2 c1
      refine x_aload_n hC 1 rfl dX1_giveTo_26 ?_
      refine x_aload_n hC 0 rfl dX1_giveTo_27 ?_
      obtain ⟨k4, h⟩ := h
      refine x_getI (n0 := this) hC (ci := 1) (T := TX1) (N := 12) (C := RX1) 0 k4 rfl rfl (by decide) rfl q342 dX1_giveTo_28 ?_
      refine x_aload_n hC 0 rfl dX1_giveTo_31 ?_
      refine x_getR (n0 := this) hC (ci := 1) (T := TX1) (N := 12) (C := RX1) 5 k4 rfl rfl (by decide) rfl q354 dX1_giveTo_32 ?_
      obtain ⟨m2, hm2, h⟩ := h
      rw [show rv ρ (hR τ20 this 5) = Value.ref (ρ m2) from by rw [hm2]; rfl]
      obtain ⟨k5, h⟩ := h
      refine x_getR (n0 := m2) hC (ci := 3) (T := TX3) (N := 5) (C := RX3) 2 k5 rfl rfl (by decide) rfl q317 dX1_giveTo_35 ?_
      refine x_iconst (v := 0) hC dX1_giveTo_38 (by decide) ?_
      obtain ⟨m3, hm3, h⟩ := h
      rw [show rv ρ (hR τ20 m2 2) = Value.ref (ρ m3) from by rw [hm3]; rfl]
      obtain ⟨k6, h⟩ := h
      obtain ⟨v1, h⟩ := h
      refine x_iald (a := m3) hC k6 v1 dX1_giveTo_39 ?_
      refine x_aload_n hC 0 rfl dX1_giveTo_40 ?_
      refine x_getR (n0 := this) hC (ci := 1) (T := TX1) (N := 12) (C := RX1) 5 k4 rfl rfl (by decide) rfl q354 dX1_giveTo_41 ?_
      rw [show rv ρ (hR τ20 this 5) = Value.ref (ρ m2) from by rw [hm2]; rfl]
      refine x_getR (n0 := m2) hC (ci := 3) (T := TX3) (N := 5) (C := RX3) 3 k5 rfl rfl (by decide) rfl q319 dX1_giveTo_44 ?_
      refine x_iconst (v := 0) hC dX1_giveTo_47 (by decide) ?_
      obtain ⟨m4, hm4, h⟩ := h
      rw [show rv ρ (hR τ20 m2 3) = Value.ref (ρ m4) from by rw [hm4]; rfl]
      obtain ⟨k7, h⟩ := h
      obtain ⟨v2, h⟩ := h
      refine x_zald (a := m4) hC k7 v2 dX1_giveTo_48 ?_
      obtain ⟨k8, h⟩ := h
      refine x_callV (n0 := a1) (as := [.int (hI τ20 this 0), .int (hI τ20 m3 (Int32.toNatClampNeg 0)), .int (hI τ20 m4 (Int32.toNatClampNeg 0))]) (rest := []) hC (ci := 2) (r := (RX2, TX2, 5)) k8 rfl (fun l hl => m2_append l hl G ρ a1 (hI τ20 this 0) (hI τ20 m3 (Int32.toNatClampNeg 0)) (hI τ20 m4 (Int32.toNatClampNeg 0)) τ20 _ h) q597 q598 q599 q15 q600 ⟨rfl, hd2_append⟩ (by decide) ⟨(show _ + 0 ≤ 0 by omega), (show _ + 0 ≤ 0 by omega)⟩ (by first | exact Nat.le_of_ble_eq_true rfl | (simp [rv_cat]; done) | (simp (decide := true) [rv_cat, cat_ref, cat_int]; done)) rfl dX1_giveTo_49 (fun E σ9 hx => False.elim hx) (fun v3 σ1 ρ1 hp1 hag1 => ?_)
      obtain ⟨e9, e8, h⟩ := hp1
      rw [e8, e9]
      refine xJ.nrm (k' := k + 0) (n' := n + 0) (pc' := 52) (st' := []) rfl rfl rfl rfl ?_
      refine x_aload_n hC 0 rfl dX1_giveTo_52 ?_
      have k9 : hK σ1 this = 2 := (hag1 this (by rw [k4]; decide)).1.trans k4
      refine x_getR (n0 := this) hC (ci := 1) (T := TX1) (N := 12) (C := RX1) 5 k9 rfl rfl (by decide) rfl q354 dX1_giveTo_53 ?_
      obtain ⟨m5, hm5, h⟩ := h
      rw [show rv ρ (hR σ1 this 5) = Value.ref (ρ m5) from by rw [hm5]; rfl]
      obtain ⟨k10, h⟩ := h
      refine x_callV (n0 := m5) (as := []) (rest := []) hC (ci := 3) (r := (RX3, TX3, 5)) k10 rfl (fun l hl => m3_dropFirst l hl G ρ m5 σ1 _ h) q601 q415 q416 q14 q417 ⟨rfl, hd3_dropFirst⟩ (by decide) ⟨(show _ + 0 ≤ 0 by omega), (show _ + 0 ≤ 0 by omega)⟩ (by first | exact Nat.le_of_ble_eq_true rfl | (simp [rv_cat]; done) | (simp (decide := true) [rv_cat, cat_ref, cat_int]; done)) rfl dX1_giveTo_56 (fun E σ9 hx => False.elim hx) (fun v4 σ2 ρ2 hp2 hag2 => ?_)
      obtain ⟨e9, e8, h⟩ := hp2
      rw [e8, e9]
      refine xJ.nrm (k' := k + 0) (n' := n + 0) (pc' := 59) (st' := []) rfl rfl rfl rfl ?_
      refine x_iinc (v' := x20_4 + 1) (L' := [(4, .int (x20_4 + 1)), (0, .ref (ρ this)), (1, .ref (ρ a1)), (3, .int x1)]) hC 3 rfl dX1_giveTo_59 rfl (by decide) (by first | rfl | simp (decide := true) [rv_cat, cat_ref, cat_int]) ?_
      refine x_goto (tgt := 20) hC dX1_giveTo_62 (by decide) ?_
      refine xJ.sub (L' := [(0, .ref (ρ this)), (1, .ref (ρ a1)), (3, .int x1), (4, .int (x20_4 + 1))]) [1, 2, 3, 0] rfl ?_
      exact ih _ _ h hKK
set_option maxHeartbeats 4000000 in
set_option maxRecDepth 20000 in
theorem m1_giveTo (l : Launch) (hl : l.stackTraces = false) (G : xG) (ρ : Nm → Nat) (this : Nm) (a1 : Nm) (p2 : Int32) (σ : PH) (Q : PH → Prop) (h : w1_giveTo this a1 p2 σ Q) : xMet l yX1_giveTo (.code yX1_giveTo cX1_giveTo 5 none) rm1_giveTo G ρ σ [.ref (ρ this), .ref (ρ a1), .int p2] (eV ρ Q) xNo := by
  refine xMet.of hl (by decide +kernel) (Nat.le_of_ble_eq_true rfl) (fun X hC hr hn htab h0 => ?_)
  have hC : xC G X "PlantServer$Item" cX1_giveTo 5 rm1_giveTo := hC
  unfold w1_giveTo at h
  refine xJ.loc (L' := [(0, .ref (ρ this)), (1, .ref (ρ a1)), (2, .int p2)]) rfl ?_
  refine x_aload_n hC 0 rfl dX1_giveTo_0 ?_
  obtain ⟨k1, h⟩ := h
  refine x_getR (n0 := this) hC (ci := 1) (T := TX1) (N := 12) (C := RX1) 5 k1 rfl rfl (by decide) rfl q354 dX1_giveTo_1 ?_
  obtain ⟨m1, hm1, h⟩ := h
  rw [show rv ρ (hR σ this 5) = Value.ref (ρ m1) from by rw [hm1]; rfl]
  obtain ⟨k2, h⟩ := h
  refine x_getI (n0 := m1) hC (ci := 3) (T := TX3) (N := 5) (C := RX3) 4 k2 rfl rfl (by decide) rfl q322 dX1_giveTo_4 ?_
  refine x_iload_n hC 2 rfl dX1_giveTo_7 ?_
  refine x_aload_n hC 1 rfl dX1_giveTo_8 ?_
  obtain ⟨k3, h⟩ := h
  refine x_getI (n0 := a1) hC (ci := 2) (T := TX2) (N := 5) (C := RX2) 4 k3 rfl rfl (by decide) rfl q573 dX1_giveTo_9 ?_
  refine x_isub hC dX1_giveTo_12 ?_
  refine x_min hC q594 q595 q9 q596 (by decide) (by first | exact Nat.le_of_ble_eq_true rfl | (simp [rv_cat]; done) | (simp (decide := true) [rv_cat, cat_ref, cat_int]; done)) (by decide) (by decide) dX1_giveTo_13 ?_
  refine xJ.nmT (fun x1 ex1 => ?_)
  have h := h x1 ex1
  refine x_istore_n (L' := [(3, .int x1), (0, .ref (ρ this)), (1, .ref (ρ a1)), (2, .int p2)]) hC dX1_giveTo_16 (by decide) (by first | rfl | simp (decide := true) [rv_cat, cat_ref, cat_int]) ?_
  refine x_iconst (v := 0) hC dX1_giveTo_17 (by decide) ?_
  refine x_istore (L' := [(4, .int 0), (3, .int x1), (0, .ref (ρ this)), (1, .ref (ρ a1)), (2, .int p2)]) hC dX1_giveTo_18 (by decide) (by first | rfl | simp (decide := true) [rv_cat, cat_ref, cat_int]) ?_
  refine xJ.sub (L' := [(0, .ref (ρ this)), (1, .ref (ρ a1)), (3, .int x1), (4, .int 0)]) [2, 3, 1, 0] rfl ?_
  obtain ⟨f20, h⟩ := h
  refine ml1_giveTo_20 hC hr htab this a1 x1 h0 (0) (0) (by decide) (by decide) _ Q _ f20 _ _ h (fun y1 τ1 h => ?_)
  exact x_vret hC hr dX1_giveTo_65 (by decide) (by decide) ⟨rfl, rfl, h⟩
/-! PlantServer$Subscription.fillMessage -/
theorem dX4_fillMessage_0 : decode cX4_fillMessage 0 = .ok (.aload_n 0, 1) := by decide +kernel
theorem dX4_fillMessage_1 : decode cX4_fillMessage 1 = .ok (.invokevirtual 93, 3) := by decide +kernel
theorem dX4_fillMessage_4 : decode cX4_fillMessage 4 = .ok (.astore_n 2, 1) := by decide +kernel
theorem dX4_fillMessage_5 : decode cX4_fillMessage 5 = .ok (.iconst 0, 1) := by decide +kernel
theorem dX4_fillMessage_6 : decode cX4_fillMessage 6 = .ok (.istore_n 3, 1) := by decide +kernel
theorem dX4_fillMessage_7 : decode cX4_fillMessage 7 = .ok (.iload_n 3, 1) := by decide +kernel
theorem dX4_fillMessage_8 : decode cX4_fillMessage 8 = .ok (.aload_n 0, 1) := by decide +kernel
theorem dX4_fillMessage_9 : decode cX4_fillMessage 9 = .ok (.getfield 27, 3) := by decide +kernel
theorem dX4_fillMessage_12 : decode cX4_fillMessage 12 = .ok (.if_icmp .ge 44, 3) := by decide +kernel
theorem dX4_fillMessage_15 : decode cX4_fillMessage 15 = .ok (.aload_n 0, 1) := by decide +kernel
theorem dX4_fillMessage_16 : decode cX4_fillMessage 16 = .ok (.getfield 11, 3) := by decide +kernel
theorem dX4_fillMessage_19 : decode cX4_fillMessage 19 = .ok (.iload_n 3, 1) := by decide +kernel
theorem dX4_fillMessage_20 : decode cX4_fillMessage 20 = .ok (.aaload, 1) := by decide +kernel
theorem dX4_fillMessage_21 : decode cX4_fillMessage 21 = .ok (.astore 4, 2) := by decide +kernel
theorem dX4_fillMessage_23 : decode cX4_fillMessage 23 = .ok (.aload 4, 2) := by decide +kernel
theorem dX4_fillMessage_25 : decode cX4_fillMessage 25 = .ok (.ifnull 25, 3) := by decide +kernel
theorem dX4_fillMessage_28 : decode cX4_fillMessage 28 = .ok (.iload_n 1, 1) := by decide +kernel
theorem dX4_fillMessage_29 : decode cX4_fillMessage 29 = .ok (.iconst 1, 1) := by decide +kernel
theorem dX4_fillMessage_30 : decode cX4_fillMessage 30 = .ok (.aload 4, 2) := by decide +kernel
theorem dX4_fillMessage_32 : decode cX4_fillMessage 32 = .ok (.getfield 76, 3) := by decide +kernel
theorem dX4_fillMessage_35 : decode cX4_fillMessage 35 = .ok (.ishl, 1) := by decide +kernel
theorem dX4_fillMessage_36 : decode cX4_fillMessage 36 = .ok (.iand, 1) := by decide +kernel
theorem dX4_fillMessage_37 : decode cX4_fillMessage 37 = .ok (.ifCond .eq 13, 3) := by decide +kernel
theorem dX4_fillMessage_40 : decode cX4_fillMessage 40 = .ok (.aload 4, 2) := by decide +kernel
theorem dX4_fillMessage_42 : decode cX4_fillMessage 42 = .ok (.aload_n 2, 1) := by decide +kernel
theorem dX4_fillMessage_43 : decode cX4_fillMessage 43 = .ok (.aload_n 0, 1) := by decide +kernel
theorem dX4_fillMessage_44 : decode cX4_fillMessage 44 = .ok (.getfield 64, 3) := by decide +kernel
theorem dX4_fillMessage_47 : decode cX4_fillMessage 47 = .ok (.invokevirtual 97, 3) := by decide +kernel
theorem dX4_fillMessage_50 : decode cX4_fillMessage 50 = .ok (.iinc 3 1, 3) := by decide +kernel
theorem dX4_fillMessage_53 : decode cX4_fillMessage 53 = .ok (.goto (-46), 3) := by decide +kernel
theorem dX4_fillMessage_56 : decode cX4_fillMessage 56 = .ok (.return_, 1) := by decide +kernel
abbrev rm4_fillMessage : Room := { frames := 3, cells := 4, slots := 35, locals := 61 }
theorem hd4_fillMessage : yX4_fillMessage.cls ≠ "java/lang/invoke/MethodHandle" ∧ yX4_fillMessage.cls ≠ "java/lang/invoke/VarHandle" ∧ (parseMethodDescriptor yX4_fillMessage.desc).map (fun d => d.parameters.length) = some 1 := by decide +kernel
set_option maxHeartbeats 4000000 in
set_option maxRecDepth 20000 in
theorem ml4_fillMessage_7 {G : xG} {X : xX} (hC : xC G X "PlantServer$Subscription" cX4_fillMessage 5 rm4_fillMessage) (hr : xRt X none) (htab : xTab X []) (this : Nm) (p1 : Int32) (m1 : Nm) {ρ : Nm → Nat} (k n : Nat) (hk1 : k ≤ 4) (hk2 : n ≤ 35) (K : Int32 → PH → Prop) (Q : PH → Prop) (Xp : String → PH → Prop) : ∀ (f7 : Nat) (x7_3 : Int32) (τ7 : PH), l4_fillMessage_7 this p1 m1 K Q f7 x7_3 τ7 → (∀ (x7_3 : Int32) (τ7 : PH), K x7_3 τ7 → xJ G X (xT X (eVA Q) Xp G rm4_fillMessage) 5 ρ τ7 k n 56 [(0, .ref (ρ this)), (1, .int p1), (2, .ref (ρ m1)), (3, .int x7_3)] []) → xJ G X (xT X (eVA Q) Xp G rm4_fillMessage) 5 ρ τ7 k n 7 [(0, .ref (ρ this)), (1, .int p1), (2, .ref (ρ m1)), (3, .int x7_3)] [] := by
  intro f7
  induction f7 with
  | zero => intro x7_3 τ7 h hKK; unfold l4_fillMessage_7 at h; exact h.elim
  | succ f7 ih =>
    intro x7_3 τ7 h hKK
    unfold l4_fillMessage_7 at h
    refine x_iload_n hC 3 rfl dX4_fillMessage_7 ?_
    refine x_aload_n hC 0 rfl dX4_fillMessage_8 ?_
    obtain ⟨k2, h⟩ := h
    refine x_getI (n0 := this) hC (ci := 4) (T := TX4) (N := 14) (C := RX4) 8 k2 rfl rfl (by decide) rfl q217 dX4_fillMessage_9 ?_
    refine x_icmp_ge (tgt := 56) hC dX4_fillMessage_12 (by decide) (fun c1 => ?_) (fun c1 => ?_)
    · have h := h.1 c1
      exact hKK _ _ h
    · have h := h.2 c1
      refine x_aload_n hC 0 rfl dX4_fillMessage_15 ?_
      refine x_getR (n0 := this) hC (ci := 4) (T := TX4) (N := 14) (C := RX4) 5 k2 rfl rfl (by decide) rfl q213 dX4_fillMessage_16 ?_
      refine x_iload_n hC 3 rfl dX4_fillMessage_19 ?_
      obtain ⟨m2, hm2, h⟩ := h
      rw [show rv ρ (hR τ7 this 5) = Value.ref (ρ m2) from by rw [hm2]; rfl]
      obtain ⟨k3, h⟩ := h
      obtain ⟨v2, h⟩ := h
      refine x_aald11 (a := m2) hC k3 v2 dX4_fillMessage_20 ?_
      refine x_astoreQ (o := hR τ7 m2 (Int32.toNatClampNeg x7_3)) (L' := [(4, rv ρ (hR τ7 m2 (Int32.toNatClampNeg x7_3))), (0, .ref (ρ this)), (1, .int p1), (2, .ref (ρ m1)), (3, .int x7_3)]) hC dX4_fillMessage_21 (by decide) (by first | rfl | simp (decide := true) [rv_cat, cat_ref, cat_int]) ?_
      refine x_aloadQ (o := hR τ7 m2 (Int32.toNatClampNeg x7_3)) hC 0 rfl dX4_fillMessage_23 ?_
      refine x_ifnull (o := hR τ7 m2 (Int32.toNatClampNeg x7_3)) (tgt := 50) hC dX4_fillMessage_25 (by decide) (fun c2 => ?_) (fun m3 c2 => ?_)
      · have h := h.1 c2
        rw [show rv ρ (hR τ7 m2 (Int32.toNatClampNeg x7_3)) = Value.null from by rw [c2]; rfl]
        refine x_iinc (v' := x7_3 + 1) (L' := [(3, .int (x7_3 + 1)), (4, .null), (0, .ref (ρ this)), (1, .int p1), (2, .ref (ρ m1))]) hC 4 rfl dX4_fillMessage_50 rfl (by decide) (by first | rfl | simp (decide := true) [rv_cat, cat_ref, cat_int]) ?_
        refine x_goto (tgt := 7) hC dX4_fillMessage_53 (by decide) ?_
        refine xJ.sub (L' := [(0, .ref (ρ this)), (1, .int p1), (2, .ref (ρ m1)), (3, .int (x7_3 + 1))]) [2, 3, 4, 0] rfl ?_
        exact ih _ _ h hKK
      · have h := h.2 m3 c2
        rw [show rv ρ (hR τ7 m2 (Int32.toNatClampNeg x7_3)) = Value.ref (ρ m3) from by rw [c2]; rfl]
        refine x_iload_n hC 2 rfl dX4_fillMessage_28 ?_
        refine x_iconst (v := 1) hC dX4_fillMessage_29 (by decide) ?_
        refine x_aload hC 0 rfl dX4_fillMessage_30 ?_
        obtain ⟨k4, h⟩ := h
        refine x_getI (n0 := m3) hC (ci := 1) (T := TX1) (N := 12) (C := RX1) 0 k4 rfl rfl (by decide) rfl q343 dX4_fillMessage_32 ?_
        refine x_ishl hC dX4_fillMessage_35 ?_
        refine x_iand hC dX4_fillMessage_36 ?_
        refine x_if_eq (tgt := 50) hC dX4_fillMessage_37 (by decide) (fun c3 => ?_) (fun c3 => ?_)
        · have h := h.1 c3
          refine x_iinc (v' := x7_3 + 1) (L' := [(3, .int (x7_3 + 1)), (4, .ref (ρ m3)), (0, .ref (ρ this)), (1, .int p1), (2, .ref (ρ m1))]) hC 4 rfl dX4_fillMessage_50 rfl (by decide) (by first | rfl | simp (decide := true) [rv_cat, cat_ref, cat_int]) ?_
          refine x_goto (tgt := 7) hC dX4_fillMessage_53 (by decide) ?_
          refine xJ.sub (L' := [(0, .ref (ρ this)), (1, .int p1), (2, .ref (ρ m1)), (3, .int (x7_3 + 1))]) [2, 3, 4, 0] rfl ?_
          exact ih _ _ h hKK
        · have h := h.2 c3
          refine x_aload hC 0 rfl dX4_fillMessage_40 ?_
          refine x_aload_n hC 3 rfl dX4_fillMessage_42 ?_
          refine x_aload_n hC 1 rfl dX4_fillMessage_43 ?_
          refine x_getI (n0 := this) hC (ci := 4) (T := TX4) (N := 14) (C := RX4) 4 k2 rfl rfl (by decide) rfl q212 dX4_fillMessage_44 ?_
          refine x_callV (n0 := m3) (as := [.ref (ρ m1), .int (hI τ7 this 4)]) (rest := []) hC (ci := 1) (r := (RX1, TX1, 12)) k4 rfl (fun l hl => m1_giveTo l hl G ρ m3 m1 (hI τ7 this 4) τ7 _ h) q590 q591 q592 q13 q593 ⟨rfl, hd1_giveTo⟩ (by decide) ⟨(show _ + 0 ≤ 4 by omega), (show _ + 0 ≤ 35 by omega)⟩ (by first | exact Nat.le_of_ble_eq_true rfl | (simp [rv_cat]; done) | (simp (decide := true) [rv_cat, cat_ref, cat_int]; done)) rfl dX4_fillMessage_47 (fun E σ9 hx => False.elim hx) (fun v3 σ2 ρ2 hp2 hag2 => ?_)
          obtain ⟨e9, e8, h⟩ := hp2
          rw [e8, e9]
          refine xJ.nrm (k' := k + 0) (n' := n + 0) (pc' := 50) (st' := []) rfl rfl rfl rfl ?_
          refine x_iinc (v' := x7_3 + 1) (L' := [(3, .int (x7_3 + 1)), (4, .ref (ρ m3)), (0, .ref (ρ this)), (1, .int p1), (2, .ref (ρ m1))]) hC 4 rfl dX4_fillMessage_50 rfl (by decide) (by first | rfl | simp (decide := true) [rv_cat, cat_ref, cat_int]) ?_
          refine x_goto (tgt := 7) hC dX4_fillMessage_53 (by decide) ?_
          refine xJ.sub (L' := [(0, .ref (ρ this)), (1, .int p1), (2, .ref (ρ m1)), (3, .int (x7_3 + 1))]) [2, 3, 4, 0] rfl ?_
          exact ih _ _ h hKK
set_option maxHeartbeats 4000000 in
set_option maxRecDepth 20000 in
theorem m4_fillMessage (l : Launch) (hl : l.stackTraces = false) (G : xG) (ρ : Nm → Nat) (this : Nm) (p1 : Int32) (σ : PH) (Q : PH → Prop) (h : w4_fillMessage this p1 σ Q) : xMet l yX4_fillMessage (.code yX4_fillMessage cX4_fillMessage 5 none) rm4_fillMessage G ρ σ [.ref (ρ this), .int p1] (eVA Q) xNo := by
  refine xMet.of hl (by decide +kernel) (Nat.le_of_ble_eq_true rfl) (fun X hC hr hn htab h0 => ?_)
  have hC : xC G X "PlantServer$Subscription" cX4_fillMessage 5 rm4_fillMessage := hC
  unfold w4_fillMessage at h
  refine xJ.loc (L' := [(0, .ref (ρ this)), (1, .int p1)]) rfl ?_
  refine x_aload_n hC 0 rfl dX4_fillMessage_0 ?_
  obtain ⟨k1, h⟩ := h
  refine x_callV (n0 := this) (as := []) (rest := []) hC (ci := 4) (r := (RX4, TX4, 14)) k1 rfl (fun l hl => m4_nextMessage l hl G ρ this σ _ h) q554 q556 s10 q11 q557 ⟨rfl, hd4_nextMessage⟩ (by decide) ⟨(by decide), (by decide)⟩ (by first | exact Nat.le_of_ble_eq_true rfl | (simp [rv_cat]; done) | (simp (decide := true) [rv_cat, cat_ref, cat_int]; done)) rfl dX4_fillMessage_1 (fun E σ9 hx => False.elim hx) (fun v1 σ1 ρ1 hp1 hag1 => ?_)
  obtain ⟨r1, e8, h⟩ := hp1
  rw [e8]
  rw [← (hag1 this (by rw [k1]; decide)).2]
  refine xJ.nrm (k' := 4) (n' := 35) (pc' := 4) (st' := [rv ρ1 r1]) rfl rfl rfl rfl ?_
  refine x_astore_nQ (o := r1) (L' := [(2, rv ρ1 r1), (0, .ref (ρ1 this)), (1, .int p1)]) hC dX4_fillMessage_4 (by decide) (by first | rfl | simp (decide := true) [rv_cat, cat_ref, cat_int]) ?_
  refine x_iconst (v := 0) hC dX4_fillMessage_5 (by decide) ?_
  refine x_istore_n (L' := [(3, .int 0), (2, rv ρ1 r1), (0, .ref (ρ1 this)), (1, .int p1)]) hC dX4_fillMessage_6 (by decide) (by first | rfl | simp (decide := true) [rv_cat, cat_ref, cat_int]) ?_
  refine xJ.sub (L' := [(0, .ref (ρ1 this)), (1, .int p1), (2, rv ρ1 r1), (3, .int 0)]) [2, 3, 1, 0] rfl ?_
  obtain ⟨m1, hm1, h⟩ := h
  rw [show rv ρ1 r1 = Value.ref (ρ1 m1) from by rw [hm1]; rfl]
  obtain ⟨f7, h⟩ := h
  refine ml4_fillMessage_7 hC hr htab this p1 m1 (4) (35) (by decide) (by decide) _ Q _ f7 _ _ h (fun y1 τ1 h => ?_)
  exact x_vret hC hr dX4_fillMessage_56 (by decide) (by decide) ⟨rfl, h⟩
/-! PlantServer$Subscription.send -/
theorem dX4_send_0 : decode cX4_send 0 = .ok (.iload_n 1, 1) := by decide +kernel
theorem dX4_send_1 : decode cX4_send 1 = .ok (.ifCond .eq 11, 3) := by decide +kernel
theorem dX4_send_4 : decode cX4_send 4 = .ok (.aload_n 0, 1) := by decide +kernel
theorem dX4_send_5 : decode cX4_send 5 = .ok (.iload_n 1, 1) := by decide +kernel
theorem dX4_send_6 : decode cX4_send 6 = .ok (.invokevirtual 85, 3) := by decide +kernel
theorem dX4_send_9 : decode cX4_send 9 = .ok (.goto 13, 3) := by decide +kernel
theorem dX4_send_12 : decode cX4_send 12 = .ok (.aload_n 0, 1) := by decide +kernel
theorem dX4_send_13 : decode cX4_send 13 = .ok (.dup, 1) := by decide +kernel
theorem dX4_send_14 : decode cX4_send 14 = .ok (.getfield 37, 3) := by decide +kernel
theorem dX4_send_17 : decode cX4_send 17 = .ok (.iconst 1, 1) := by decide +kernel
theorem dX4_send_18 : decode cX4_send 18 = .ok (.iadd, 1) := by decide +kernel
theorem dX4_send_19 : decode cX4_send 19 = .ok (.putfield 37, 3) := by decide +kernel
theorem dX4_send_22 : decode cX4_send 22 = .ok (.aload_n 0, 1) := by decide +kernel
theorem dX4_send_23 : decode cX4_send 23 = .ok (.iconst 0, 1) := by decide +kernel
theorem dX4_send_24 : decode cX4_send 24 = .ok (.putfield 40, 3) := by decide +kernel
theorem dX4_send_27 : decode cX4_send 27 = .ok (.aload_n 0, 1) := by decide +kernel
theorem dX4_send_28 : decode cX4_send 28 = .ok (.iconst 0, 1) := by decide +kernel
theorem dX4_send_29 : decode cX4_send 29 = .ok (.putfield 43, 3) := by decide +kernel
theorem dX4_send_32 : decode cX4_send 32 = .ok (.return_, 1) := by decide +kernel
abbrev rm4_send : Room := { frames := 4, cells := 4, slots := 35, locals := 85 }
theorem hd4_send : yX4_send.cls ≠ "java/lang/invoke/MethodHandle" ∧ yX4_send.cls ≠ "java/lang/invoke/VarHandle" ∧ (parseMethodDescriptor yX4_send.desc).map (fun d => d.parameters.length) = some 1 := by decide +kernel
set_option maxHeartbeats 4000000 in
set_option maxRecDepth 20000 in
theorem m4_send (l : Launch) (hl : l.stackTraces = false) (G : xG) (ρ : Nm → Nat) (this : Nm) (p1 : Int32) (σ : PH) (Q : PH → Prop) (h : w4_send this p1 σ Q) : xMet l yX4_send (.code yX4_send cX4_send 2 none) rm4_send G ρ σ [.ref (ρ this), .int p1] (eVA Q) xNo := by
  refine xMet.of hl (by decide +kernel) (Nat.le_of_ble_eq_true rfl) (fun X hC hr hn htab h0 => ?_)
  have hC : xC G X "PlantServer$Subscription" cX4_send 2 rm4_send := hC
  unfold w4_send at h
  refine xJ.loc (L' := [(0, .ref (ρ this)), (1, .int p1)]) rfl ?_
  refine x_iload_n hC 1 rfl dX4_send_0 ?_
  refine x_if_eq (tgt := 12) hC dX4_send_1 (by decide) (fun c1 => ?_) (fun c1 => ?_)
  · have h := h.1 c1
    refine x_aload_n hC 0 rfl dX4_send_12 ?_
    refine x_dup hC (by first | rfl | exact rv_cat) dX4_send_13 ?_
    obtain ⟨k1, h⟩ := h
    refine x_getI (n0 := this) hC (ci := 4) (T := TX4) (N := 14) (C := RX4) 11 k1 rfl rfl (by decide) rfl q222 dX4_send_14 ?_
    refine x_iconst (v := 1) hC dX4_send_17 (by decide) ?_
    refine x_iadd hC dX4_send_18 ?_
    refine x_putI (n0 := this) hC (ci := 4) (T := TX4) (N := 14) (C := RX4) 11 k1 rfl rfl (by decide) rfl q222 rfl (tyX4_ok 11 (by decide)) dX4_send_19 ?_
    refine xJ.nmH (fun σ1 e1 => ?_)
    have h := h σ1 e1
    have r1 : hR σ1 = hR σ ∧ hL σ1 = hL σ := by rw [e1]; exact ⟨rfl, rfl⟩
    refine x_aload_n hC 0 rfl dX4_send_22 ?_
    refine x_iconst (v := 0) hC dX4_send_23 (by decide) ?_
    have k2 : hK σ1 this = 5 := by rw [e1]; exact k1
    refine x_putI (n0 := this) hC (ci := 4) (T := TX4) (N := 14) (C := RX4) 12 k2 rfl rfl (by decide) rfl q224 rfl (tyX4_ok 12 (by decide)) dX4_send_24 ?_
    refine xJ.nmH (fun σ2 e2 => ?_)
    have h := h σ2 e2
    have r2 : hR σ2 = hR σ ∧ hL σ2 = hL σ := by rw [e2]; exact ⟨r1.1, r1.2⟩
    refine x_aload_n hC 0 rfl dX4_send_27 ?_
    refine x_iconst (v := 0) hC dX4_send_28 (by decide) ?_
    have k3 : hK σ2 this = 5 := by rw [e2]; exact k2
    refine x_putI (n0 := this) hC (ci := 4) (T := TX4) (N := 14) (C := RX4) 13 k3 rfl rfl (by decide) rfl q225 rfl (tyX4_ok 13 (by decide)) dX4_send_29 ?_
    refine xJ.nmH (fun σ3 e3 => ?_)
    have h := h σ3 e3
    have r3 : hR σ3 = hR σ ∧ hL σ3 = hL σ := by rw [e3]; exact ⟨r2.1, r2.2⟩
    exact x_vret hC hr dX4_send_32 (by decide) (by decide) ⟨rfl, h⟩
  · have h := h.2 c1
    refine x_aload_n hC 0 rfl dX4_send_4 ?_
    refine x_iload_n hC 1 rfl dX4_send_5 ?_
    obtain ⟨k4, h⟩ := h
    refine xJ.sub (L' := [(0, .ref (ρ this))]) [0] rfl ?_
    refine x_callV (n0 := this) (as := [.int p1]) (rest := []) hC (ci := 4) (r := (RX4, TX4, 14)) k4 rfl (fun l hl => m4_fillMessage l hl G ρ this p1 σ _ h) q550 q552 s9 q11 q553 ⟨rfl, hd4_fillMessage⟩ (by decide) ⟨(by decide), (by decide)⟩ (by first | exact Nat.le_of_ble_eq_true rfl | (simp [rv_cat]; done) | (simp (decide := true) [rv_cat, cat_ref, cat_int]; done)) rfl dX4_send_6 (fun E σ9 hx => False.elim hx) (fun v1 σ4 ρ1 hp1 hag1 => ?_)
    obtain ⟨e8, h⟩ := hp1
    rw [e8]
    rw [← (hag1 this (by rw [k4]; decide)).2]
    refine xJ.nrm (k' := 4) (n' := 35) (pc' := 9) (st' := []) rfl rfl rfl rfl ?_
    refine x_goto (tgt := 22) hC dX4_send_9 (by decide) ?_
    refine x_aload_n hC 0 rfl dX4_send_22 ?_
    refine x_iconst (v := 0) hC dX4_send_23 (by decide) ?_
    have k5 : hK σ4 this = 5 := (hag1 this (by rw [k4]; decide)).1.trans k4
    refine x_putI (n0 := this) hC (ci := 4) (T := TX4) (N := 14) (C := RX4) 12 k5 rfl rfl (by decide) rfl q224 rfl (tyX4_ok 12 (by decide)) dX4_send_24 ?_
    refine xJ.nmH (fun σ5 e4 => ?_)
    have h := h σ5 e4
    have r4 : hR σ5 = hR σ4 ∧ hL σ5 = hL σ4 := by rw [e4]; exact ⟨rfl, rfl⟩
    refine x_aload_n hC 0 rfl dX4_send_27 ?_
    refine x_iconst (v := 0) hC dX4_send_28 (by decide) ?_
    have k6 : hK σ5 this = 5 := by rw [e4]; exact k5
    refine x_putI (n0 := this) hC (ci := 4) (T := TX4) (N := 14) (C := RX4) 13 k6 rfl rfl (by decide) rfl q225 rfl (tyX4_ok 13 (by decide)) dX4_send_29 ?_
    refine xJ.nmH (fun σ6 e5 => ?_)
    have h := h σ6 e5
    have r5 : hR σ6 = hR σ4 ∧ hL σ6 = hL σ4 := by rw [e5]; exact ⟨r4.1, r4.2⟩
    exact x_vret hC hr dX4_send_32 (by decide) (by decide) ⟨rfl, h⟩
/-! PlantServer.publishes -/
theorem dX6_publishes_0 : decode cX6_publishes 0 = .ok (.aload_n 1, 1) := by decide +kernel
theorem dX6_publishes_1 : decode cX6_publishes 1 = .ok (.invokevirtual 229, 3) := by decide +kernel
theorem dX6_publishes_4 : decode cX6_publishes 4 = .ok (.istore_n 2, 1) := by decide +kernel
theorem dX6_publishes_5 : decode cX6_publishes 5 = .ok (.aload_n 1, 1) := by decide +kernel
theorem dX6_publishes_6 : decode cX6_publishes 6 = .ok (.iload_n 2, 1) := by decide +kernel
theorem dX6_publishes_7 : decode cX6_publishes 7 = .ok (.invokevirtual 232, 3) := by decide +kernel
theorem dX6_publishes_10 : decode cX6_publishes 10 = .ok (.ifCond .ne 5, 3) := by decide +kernel
theorem dX6_publishes_13 : decode cX6_publishes 13 = .ok (.iconst 0, 1) := by decide +kernel
theorem dX6_publishes_14 : decode cX6_publishes 14 = .ok (.ireturn, 1) := by decide +kernel
theorem dX6_publishes_15 : decode cX6_publishes 15 = .ok (.aload_n 0, 1) := by decide +kernel
theorem dX6_publishes_16 : decode cX6_publishes 16 = .ok (.getfield 42, 3) := by decide +kernel
theorem dX6_publishes_19 : decode cX6_publishes 19 = .ok (.ifCond .ne 9, 3) := by decide +kernel
theorem dX6_publishes_22 : decode cX6_publishes 22 = .ok (.aload_n 1, 1) := by decide +kernel
theorem dX6_publishes_23 : decode cX6_publishes 23 = .ok (.invokevirtual 236, 3) := by decide +kernel
theorem dX6_publishes_26 : decode cX6_publishes 26 = .ok (.iconst 0, 1) := by decide +kernel
theorem dX6_publishes_27 : decode cX6_publishes 27 = .ok (.ireturn, 1) := by decide +kernel
theorem dX6_publishes_28 : decode cX6_publishes 28 = .ok (.aload_n 0, 1) := by decide +kernel
theorem dX6_publishes_29 : decode cX6_publishes 29 = .ok (.dup, 1) := by decide +kernel
theorem dX6_publishes_30 : decode cX6_publishes 30 = .ok (.getfield 42, 3) := by decide +kernel
theorem dX6_publishes_33 : decode cX6_publishes 33 = .ok (.iconst 1, 1) := by decide +kernel
theorem dX6_publishes_34 : decode cX6_publishes 34 = .ok (.isub, 1) := by decide +kernel
theorem dX6_publishes_35 : decode cX6_publishes 35 = .ok (.putfield 42, 3) := by decide +kernel
theorem dX6_publishes_38 : decode cX6_publishes 38 = .ok (.aload_n 1, 1) := by decide +kernel
theorem dX6_publishes_39 : decode cX6_publishes 39 = .ok (.iload_n 2, 1) := by decide +kernel
theorem dX6_publishes_40 : decode cX6_publishes 40 = .ok (.invokevirtual 239, 3) := by decide +kernel
theorem dX6_publishes_43 : decode cX6_publishes 43 = .ok (.iconst 1, 1) := by decide +kernel
theorem dX6_publishes_44 : decode cX6_publishes 44 = .ok (.ireturn, 1) := by decide +kernel
abbrev rm6_publishes : Room := { frames := 5, cells := 4, slots := 35, locals := 106 }
theorem hd6_publishes : yX6_publishes.cls ≠ "java/lang/invoke/MethodHandle" ∧ yX6_publishes.cls ≠ "java/lang/invoke/VarHandle" ∧ (parseMethodDescriptor yX6_publishes.desc).map (fun d => d.parameters.length) = some 1 := by decide +kernel
set_option maxHeartbeats 4000000 in
set_option maxRecDepth 20000 in
theorem m6_publishes (l : Launch) (hl : l.stackTraces = false) (G : xG) (ρ : Nm → Nat) (this : Nm) (a1 : Nm) (σ : PH) (Q : Int32 → PH → Prop) (h : w6_publishes this a1 σ Q) : xMet l yX6_publishes (.code yX6_publishes cX6_publishes 3 (some .boolean)) rm6_publishes G ρ σ [.ref (ρ this), .ref (ρ a1)] (eIA Q) xNo := by
  refine xMet.of hl (by decide +kernel) (Nat.le_of_ble_eq_true rfl) (fun X hC hr hn htab h0 => ?_)
  have hC : xC G X "PlantServer" cX6_publishes 3 rm6_publishes := hC
  unfold w6_publishes at h
  refine xJ.loc (L' := [(0, .ref (ρ this)), (1, .ref (ρ a1))]) rfl ?_
  refine x_aload_n hC 1 rfl dX6_publishes_0 ?_
  obtain ⟨k1, h⟩ := h
  refine x_callV (n0 := a1) (as := []) (rest := []) hC (ci := 4) (r := (RX4, TX4, 14)) k1 rfl (fun l hl => m4_findTold l hl G ρ a1 σ _ h) q534 q535 q536 q11 q537 ⟨rfl, hd4_findTold⟩ (by decide) ⟨(by decide), (by decide)⟩ (by first | exact Nat.le_of_ble_eq_true rfl | (simp [rv_cat]; done) | (simp (decide := true) [rv_cat, cat_ref, cat_int]; done)) rfl dX6_publishes_1 (fun E σ9 hx => False.elim hx) (fun v1 σ1 ρ1 hp1 hag1 => ?_)
  obtain ⟨e9, r1, e8, h⟩ := hp1
  rw [e8, e9]
  refine xJ.nrm (k' := 0) (n' := 0) (pc' := 4) (st' := [.int r1]) rfl rfl rfl rfl ?_
  refine x_istore_n (L' := [(2, .int r1), (0, .ref (ρ this)), (1, .ref (ρ a1))]) hC dX6_publishes_4 (by decide) (by first | rfl | simp (decide := true) [rv_cat, cat_ref, cat_int]) ?_
  refine x_aload_n hC 2 rfl dX6_publishes_5 ?_
  refine x_iload_n hC 0 rfl dX6_publishes_6 ?_
  have k2 : hK σ1 a1 = 5 := (hag1 a1 (by rw [k1]; decide)).1.trans k1
  refine x_callV (n0 := a1) (as := [.int r1]) (rest := []) hC (ci := 4) (r := (RX4, TX4, 14)) k2 rfl (fun l hl => m4_isSomethingDue l hl G ρ a1 r1 σ1 _ h) q538 q539 q540 q11 q541 ⟨rfl, hd4_isSomethingDue⟩ (by decide) ⟨(by decide), (by decide)⟩ (by first | exact Nat.le_of_ble_eq_true rfl | (simp [rv_cat]; done) | (simp (decide := true) [rv_cat, cat_ref, cat_int]; done)) rfl dX6_publishes_7 (fun E σ9 hx => False.elim hx) (fun v2 σ2 ρ2 hp2 hag2 => ?_)
  obtain ⟨e9, r2, e8, h⟩ := hp2
  rw [e8, e9]
  refine xJ.nrm (k' := 0) (n' := 0) (pc' := 10) (st' := [.int r2]) rfl rfl rfl rfl ?_
  refine x_if_ne (tgt := 15) hC dX6_publishes_10 (by decide) (fun c1 => ?_) (fun c1 => ?_)
  · have h := h.1 c1
    refine x_aload_n hC 1 rfl dX6_publishes_15 ?_
    obtain ⟨k3, h⟩ := h
    refine x_getI (n0 := this) hC (ci := 6) (T := TX6) (N := 9) (C := RX6) 7 k3 rfl rfl (by decide) rfl q56 dX6_publishes_16 ?_
    refine x_if_ne (tgt := 28) hC dX6_publishes_19 (by decide) (fun c2 => ?_) (fun c2 => ?_)
    · have h := h.1 c2
      refine x_aload_n hC 1 rfl dX6_publishes_28 ?_
      refine x_dup hC (by first | rfl | exact rv_cat) dX6_publishes_29 ?_
      refine x_getI (n0 := this) hC (ci := 6) (T := TX6) (N := 9) (C := RX6) 7 k3 rfl rfl (by decide) rfl q56 dX6_publishes_30 ?_
      refine x_iconst (v := 1) hC dX6_publishes_33 (by decide) ?_
      refine x_isub hC dX6_publishes_34 ?_
      refine x_putI (n0 := this) hC (ci := 6) (T := TX6) (N := 9) (C := RX6) 7 k3 rfl rfl (by decide) rfl q56 rfl (tyX6_ok 7 (by decide)) dX6_publishes_35 ?_
      refine xJ.nmH (fun σ3 e1 => ?_)
      have h := h σ3 e1
      have r3 : hR σ3 = hR σ2 ∧ hL σ3 = hL σ2 := by rw [e1]; exact ⟨rfl, rfl⟩
      refine x_aload_n hC 2 rfl dX6_publishes_38 ?_
      refine x_iload_n hC 0 rfl dX6_publishes_39 ?_
      have k4 : hK σ2 a1 = 5 := (hag2 a1 (by rw [k2]; decide)).1.trans k2
      have k5 : hK σ3 a1 = 5 := by rw [e1]; exact k4
      refine xJ.sub (L' := []) [] rfl ?_
      refine x_callV (n0 := a1) (as := [.int r1]) (rest := []) hC (ci := 4) (r := (RX4, TX4, 14)) k5 rfl (fun l hl => m4_send l hl G ρ a1 r1 σ3 _ h) q546 q547 q548 q11 q549 ⟨rfl, hd4_send⟩ (by decide) ⟨(by decide), (by decide)⟩ (by first | exact Nat.le_of_ble_eq_true rfl | (simp [rv_cat]; done) | (simp (decide := true) [rv_cat, cat_ref, cat_int]; done)) rfl dX6_publishes_40 (fun E σ9 hx => False.elim hx) (fun v3 σ4 ρ3 hp3 hag3 => ?_)
      obtain ⟨e8, h⟩ := hp3
      rw [e8]
      refine xJ.nrm (k' := 4) (n' := 35) (pc' := 43) (st' := []) rfl rfl rfl rfl ?_
      refine x_iconst (v := 1) hC dX6_publishes_43 (by decide) ?_
      exact x_zret hC hr zb1 dX6_publishes_44 (by decide) (by decide) ⟨_, rfl, h⟩
    · have h := h.2 c2
      refine x_aload_n hC 2 rfl dX6_publishes_22 ?_
      have k6 : hK σ2 a1 = 5 := (hag2 a1 (by rw [k2]; decide)).1.trans k2
      refine x_callV (n0 := a1) (as := []) (rest := []) hC (ci := 4) (r := (RX4, TX4, 14)) k6 rfl (fun l hl => m4_lose l hl G ρ a1 σ2 _ h) q542 q543 q544 q11 q545 ⟨rfl, hd4_lose⟩ (by decide) ⟨(by decide), (by decide)⟩ (by first | exact Nat.le_of_ble_eq_true rfl | (simp [rv_cat]; done) | (simp (decide := true) [rv_cat, cat_ref, cat_int]; done)) rfl dX6_publishes_23 (fun E σ9 hx => False.elim hx) (fun v4 σ5 ρ4 hp4 hag4 => ?_)
      obtain ⟨e9, e8, h⟩ := hp4
      rw [e8, e9]
      refine xJ.nrm (k' := 0) (n' := 0) (pc' := 26) (st' := []) rfl rfl rfl rfl ?_
      refine x_iconst (v := 0) hC dX6_publishes_26 (by decide) ?_
      exact x_zret hC hr zb0 dX6_publishes_27 (by decide) (by decide) ⟨_, rfl, h⟩
  · have h := h.2 c1
    refine x_iconst (v := 0) hC dX6_publishes_13 (by decide) ?_
    exact x_zret hC hr zb0 dX6_publishes_14 (by decide) (by decide) ⟨_, rfl, h⟩
/-! PlantServer.publishSubscriptions -/
theorem dX6_publishSubscriptions_0 : decode cX6_publishSubscriptions 0 = .ok (.iconst 0, 1) := by decide +kernel
theorem dX6_publishSubscriptions_1 : decode cX6_publishSubscriptions 1 = .ok (.istore_n 1, 1) := by decide +kernel
theorem dX6_publishSubscriptions_2 : decode cX6_publishSubscriptions 2 = .ok (.iconst 0, 1) := by decide +kernel
theorem dX6_publishSubscriptions_3 : decode cX6_publishSubscriptions 3 = .ok (.istore_n 2, 1) := by decide +kernel
theorem dX6_publishSubscriptions_4 : decode cX6_publishSubscriptions 4 = .ok (.iload_n 2, 1) := by decide +kernel
theorem dX6_publishSubscriptions_5 : decode cX6_publishSubscriptions 5 = .ok (.aload_n 0, 1) := by decide +kernel
theorem dX6_publishSubscriptions_6 : decode cX6_publishSubscriptions 6 = .ok (.getfield 35, 3) := by decide +kernel
theorem dX6_publishSubscriptions_9 : decode cX6_publishSubscriptions 9 = .ok (.if_icmp .ge 48, 3) := by decide +kernel
theorem dX6_publishSubscriptions_12 : decode cX6_publishSubscriptions 12 = .ok (.aload_n 0, 1) := by decide +kernel
theorem dX6_publishSubscriptions_13 : decode cX6_publishSubscriptions 13 = .ok (.getfield 19, 3) := by decide +kernel
theorem dX6_publishSubscriptions_16 : decode cX6_publishSubscriptions 16 = .ok (.iload_n 2, 1) := by decide +kernel
theorem dX6_publishSubscriptions_17 : decode cX6_publishSubscriptions 17 = .ok (.aaload, 1) := by decide +kernel
theorem dX6_publishSubscriptions_18 : decode cX6_publishSubscriptions 18 = .ok (.astore_n 3, 1) := by decide +kernel
theorem dX6_publishSubscriptions_19 : decode cX6_publishSubscriptions 19 = .ok (.aload_n 3, 1) := by decide +kernel
theorem dX6_publishSubscriptions_20 : decode cX6_publishSubscriptions 20 = .ok (.ifnull 31, 3) := by decide +kernel
theorem dX6_publishSubscriptions_23 : decode cX6_publishSubscriptions 23 = .ok (.aload_n 3, 1) := by decide +kernel
theorem dX6_publishSubscriptions_24 : decode cX6_publishSubscriptions 24 = .ok (.getfield 77, 3) := by decide +kernel
theorem dX6_publishSubscriptions_27 : decode cX6_publishSubscriptions 27 = .ok (.ifCond .eq 24, 3) := by decide +kernel
theorem dX6_publishSubscriptions_30 : decode cX6_publishSubscriptions 30 = .ok (.aload_n 3, 1) := by decide +kernel
theorem dX6_publishSubscriptions_31 : decode cX6_publishSubscriptions 31 = .ok (.getfield 224, 3) := by decide +kernel
theorem dX6_publishSubscriptions_34 : decode cX6_publishSubscriptions 34 = .ok (.invokevirtual 212, 3) := by decide +kernel
theorem dX6_publishSubscriptions_37 : decode cX6_publishSubscriptions 37 = .ok (.ifCond .eq 14, 3) := by decide +kernel
theorem dX6_publishSubscriptions_40 : decode cX6_publishSubscriptions 40 = .ok (.aload_n 0, 1) := by decide +kernel
theorem dX6_publishSubscriptions_41 : decode cX6_publishSubscriptions 41 = .ok (.aload_n 3, 1) := by decide +kernel
theorem dX6_publishSubscriptions_42 : decode cX6_publishSubscriptions 42 = .ok (.invokevirtual 225, 3) := by decide +kernel
theorem dX6_publishSubscriptions_45 : decode cX6_publishSubscriptions 45 = .ok (.ifCond .eq 6, 3) := by decide +kernel
theorem dX6_publishSubscriptions_48 : decode cX6_publishSubscriptions 48 = .ok (.iinc 1 1, 3) := by decide +kernel
theorem dX6_publishSubscriptions_51 : decode cX6_publishSubscriptions 51 = .ok (.iinc 2 1, 3) := by decide +kernel
theorem dX6_publishSubscriptions_54 : decode cX6_publishSubscriptions 54 = .ok (.goto (-50), 3) := by decide +kernel
theorem dX6_publishSubscriptions_57 : decode cX6_publishSubscriptions 57 = .ok (.iload_n 1, 1) := by decide +kernel
theorem dX6_publishSubscriptions_58 : decode cX6_publishSubscriptions 58 = .ok (.ireturn, 1) := by decide +kernel
abbrev rm6_publishSubscriptions : Room := { frames := 6, cells := 20, slots := 175, locals := 128 }
theorem hd6_publishSubscriptions : yX6_publishSubscriptions.cls ≠ "java/lang/invoke/MethodHandle" ∧ yX6_publishSubscriptions.cls ≠ "java/lang/invoke/VarHandle" ∧ (parseMethodDescriptor yX6_publishSubscriptions.desc).map (fun d => d.parameters.length) = some 0 := by decide +kernel
set_option maxHeartbeats 4000000 in
set_option maxRecDepth 20000 in
theorem ml6_publishSubscriptions_4 {G : xG} {X : xX} (hC : xC G X "PlantServer" cX6_publishSubscriptions 4 rm6_publishSubscriptions) (hr : xRt X (some .int)) (htab : xTab X []) (this : Nm) (kE nE : Nat) (hkE : kE + 4 ≤ 20) (hnE : nE + 35 ≤ 175) (K : Int32 → Int32 → PH → Prop) (Q : Int32 → PH → Prop) (Xp : String → PH → Prop) : ∀ (f4 : Nat) (ρ : Nm → Nat) (k n : Nat), k + f4 * 4 ≤ kE + 4 → n + f4 * 35 ≤ nE + 35 → ∀ (x4_1 : Int32) (x4_2 : Int32) (τ4 : PH), l6_publishSubscriptions_4 this K Q f4 x4_1 x4_2 τ4 → (∀ (x4_1 : Int32) (x4_2 : Int32) (ρ : Nm → Nat) (τ4 : PH), K x4_1 x4_2 τ4 → xJ G X (xT X (eIA Q) Xp G rm6_publishSubscriptions) 4 ρ τ4 kE nE 57 [(0, .ref (ρ this)), (1, .int x4_1), (2, .int x4_2)] []) → xJ G X (xT X (eIA Q) Xp G rm6_publishSubscriptions) 4 ρ τ4 k n 4 [(0, .ref (ρ this)), (1, .int x4_1), (2, .int x4_2)] [] := by
  intro f4
  induction f4 with
  | zero => intro ρ k n hk1 hk2 x4_1 x4_2 τ4 h hKK; unfold l6_publishSubscriptions_4 at h; exact h.elim
  | succ f4 ih =>
    intro ρ k n hk1 hk2 x4_1 x4_2 τ4 h hKK
    unfold l6_publishSubscriptions_4 at h
    refine x_iload_n hC 2 rfl dX6_publishSubscriptions_4 ?_
    refine x_aload_n hC 0 rfl dX6_publishSubscriptions_5 ?_
    obtain ⟨k1, h⟩ := h
    refine x_getI (n0 := this) hC (ci := 6) (T := TX6) (N := 9) (C := RX6) 5 k1 rfl rfl (by decide) rfl q54 dX6_publishSubscriptions_6 ?_
    refine x_icmp_ge (tgt := 57) hC dX6_publishSubscriptions_9 (by decide) (fun c1 => ?_) (fun c1 => ?_)
    · have h := h.1 c1
      refine xJ.wid (k' := kE) (n' := nE) (by omega) (by omega) ?_
      exact hKK _ _ _ _ h
    · have h := h.2 c1
      refine x_aload_n hC 0 rfl dX6_publishSubscriptions_12 ?_
      refine x_getR (n0 := this) hC (ci := 6) (T := TX6) (N := 9) (C := RX6) 2 k1 rfl rfl (by decide) rfl q51 dX6_publishSubscriptions_13 ?_
      refine x_iload_n hC 2 rfl dX6_publishSubscriptions_16 ?_
      obtain ⟨m1, hm1, h⟩ := h
      rw [show rv ρ (hR τ4 this 2) = Value.ref (ρ m1) from by rw [hm1]; rfl]
      obtain ⟨k2, h⟩ := h
      obtain ⟨v1, h⟩ := h
      refine x_aald13 (a := m1) hC k2 v1 dX6_publishSubscriptions_17 ?_
      refine x_astore_nQ (o := hR τ4 m1 (Int32.toNatClampNeg x4_2)) (L' := [(3, rv ρ (hR τ4 m1 (Int32.toNatClampNeg x4_2))), (0, .ref (ρ this)), (1, .int x4_1), (2, .int x4_2)]) hC dX6_publishSubscriptions_18 (by decide) (by first | rfl | simp (decide := true) [rv_cat, cat_ref, cat_int]) ?_
      refine x_aload_nQ (o := hR τ4 m1 (Int32.toNatClampNeg x4_2)) hC 0 rfl dX6_publishSubscriptions_19 ?_
      refine x_ifnull (o := hR τ4 m1 (Int32.toNatClampNeg x4_2)) (tgt := 51) hC dX6_publishSubscriptions_20 (by decide) (fun c2 => ?_) (fun m2 c2 => ?_)
      · have h := h.1 c2
        rw [show rv ρ (hR τ4 m1 (Int32.toNatClampNeg x4_2)) = Value.null from by rw [c2]; rfl]
        refine x_iinc (v' := x4_2 + 1) (L' := [(2, .int (x4_2 + 1)), (3, .null), (0, .ref (ρ this)), (1, .int x4_1)]) hC 3 rfl dX6_publishSubscriptions_51 rfl (by decide) (by first | rfl | simp (decide := true) [rv_cat, cat_ref, cat_int]) ?_
        refine x_goto (tgt := 4) hC dX6_publishSubscriptions_54 (by decide) ?_
        refine xJ.sub (L' := [(0, .ref (ρ this)), (1, .int x4_1), (2, .int (x4_2 + 1))]) [2, 3, 0] rfl ?_
        exact ih _ _ _ (show _ + f4 * 4 ≤ kE + 4 by omega) (show _ + f4 * 35 ≤ nE + 35 by omega) _ _ _ h hKK
      · have h := h.2 m2 c2
        rw [show rv ρ (hR τ4 m1 (Int32.toNatClampNeg x4_2)) = Value.ref (ρ m2) from by rw [c2]; rfl]
        refine x_aload_n hC 0 rfl dX6_publishSubscriptions_23 ?_
        obtain ⟨k3, h⟩ := h
        refine x_getI (n0 := m2) hC (ci := 4) (T := TX4) (N := 14) (C := RX4) 7 k3 rfl rfl (by decide) rfl q216 dX6_publishSubscriptions_24 ?_
        refine x_if_eq (tgt := 51) hC dX6_publishSubscriptions_27 (by decide) (fun c3 => ?_) (fun c3 => ?_)
        · have h := h.1 c3
          refine x_iinc (v' := x4_2 + 1) (L' := [(2, .int (x4_2 + 1)), (3, .ref (ρ m2)), (0, .ref (ρ this)), (1, .int x4_1)]) hC 3 rfl dX6_publishSubscriptions_51 rfl (by decide) (by first | rfl | simp (decide := true) [rv_cat, cat_ref, cat_int]) ?_
          refine x_goto (tgt := 4) hC dX6_publishSubscriptions_54 (by decide) ?_
          refine xJ.sub (L' := [(0, .ref (ρ this)), (1, .int x4_1), (2, .int (x4_2 + 1))]) [2, 3, 0] rfl ?_
          exact ih _ _ _ (show _ + f4 * 4 ≤ kE + 4 by omega) (show _ + f4 * 35 ≤ nE + 35 by omega) _ _ _ h hKK
        · have h := h.2 c3
          refine x_aload_n hC 0 rfl dX6_publishSubscriptions_30 ?_
          refine x_getR (n0 := m2) hC (ci := 4) (T := TX4) (N := 14) (C := RX4) 0 k3 rfl rfl (by decide) rfl q207 dX6_publishSubscriptions_31 ?_
          obtain ⟨m3, hm2, h⟩ := h
          rw [show rv ρ (hR τ4 m2 0) = Value.ref (ρ m3) from by rw [hm2]; rfl]
          obtain ⟨k4, h⟩ := h
          refine x_callV (n0 := m3) (as := []) (rest := []) hC (ci := 5) (r := (RX5, TX5, 2)) k4 rfl (fun l hl => m5_countTick l hl G ρ m3 τ4 _ h) q511 q512 q513 q12 q514 ⟨rfl, hd5_countTick⟩ (by decide) ⟨(show _ + 0 ≤ 20 by omega), (show _ + 0 ≤ 175 by omega)⟩ (by first | exact Nat.le_of_ble_eq_true rfl | (simp [rv_cat]; done) | (simp (decide := true) [rv_cat, cat_ref, cat_int]; done)) rfl dX6_publishSubscriptions_34 (fun E σ9 hx => False.elim hx) (fun v2 σ1 ρ1 hp1 hag1 => ?_)
          obtain ⟨e9, r1, e8, h⟩ := hp1
          rw [e8, e9]
          refine xJ.nrm (k' := k + 0) (n' := n + 0) (pc' := 37) (st' := [.int r1]) rfl rfl rfl rfl ?_
          refine x_if_eq (tgt := 51) hC dX6_publishSubscriptions_37 (by decide) (fun c4 => ?_) (fun c4 => ?_)
          · have h := h.1 c4
            refine x_iinc (v' := x4_2 + 1) (L' := [(2, .int (x4_2 + 1)), (3, .ref (ρ m2)), (0, .ref (ρ this)), (1, .int x4_1)]) hC 3 rfl dX6_publishSubscriptions_51 rfl (by decide) (by first | rfl | simp (decide := true) [rv_cat, cat_ref, cat_int]) ?_
            refine x_goto (tgt := 4) hC dX6_publishSubscriptions_54 (by decide) ?_
            refine xJ.sub (L' := [(0, .ref (ρ this)), (1, .int x4_1), (2, .int (x4_2 + 1))]) [2, 3, 0] rfl ?_
            exact ih _ _ _ (show _ + f4 * 4 ≤ kE + 4 by omega) (show _ + f4 * 35 ≤ nE + 35 by omega) _ _ _ h hKK
          · have h := h.2 c4
            refine x_aload_n hC 1 rfl dX6_publishSubscriptions_40 ?_
            refine x_aload_n hC 0 rfl dX6_publishSubscriptions_41 ?_
            have k5 : hK σ1 this = 7 := (hag1 this (by rw [k1]; decide)).1.trans k1
            refine xJ.sub (L' := [(0, .ref (ρ this)), (1, .int x4_1), (2, .int x4_2)]) [1, 2, 3] rfl ?_
            refine x_callV (n0 := this) (as := [.ref (ρ m2)]) (rest := []) hC (ci := 6) (r := (RX6, TX6, 9)) k5 rfl (fun l hl => m6_publishes l hl G ρ this m2 σ1 _ h) q530 q532 s8 q1 q533 ⟨rfl, hd6_publishes⟩ (by decide) ⟨(show _ + 4 ≤ 20 by omega), (show _ + 35 ≤ 175 by omega)⟩ (by first | exact Nat.le_of_ble_eq_true rfl | (simp [rv_cat]; done) | (simp (decide := true) [rv_cat, cat_ref, cat_int]; done)) rfl dX6_publishSubscriptions_42 (fun E σ9 hx => False.elim hx) (fun v3 σ2 ρ2 hp2 hag2 => ?_)
            obtain ⟨r2, e8, h⟩ := hp2
            rw [e8]
            rw [← (hag2 this (by rw [k5]; decide)).2]
            refine xJ.nrm (k' := k + 4) (n' := n + 35) (pc' := 45) (st' := [.int r2]) rfl rfl rfl rfl ?_
            refine x_if_eq (tgt := 51) hC dX6_publishSubscriptions_45 (by decide) (fun c5 => ?_) (fun c5 => ?_)
            · have h := h.1 c5
              refine x_iinc (v' := x4_2 + 1) (L' := [(2, .int (x4_2 + 1)), (0, .ref (ρ2 this)), (1, .int x4_1)]) hC 2 rfl dX6_publishSubscriptions_51 rfl (by decide) (by first | rfl | simp (decide := true) [rv_cat, cat_ref, cat_int]) ?_
              refine x_goto (tgt := 4) hC dX6_publishSubscriptions_54 (by decide) ?_
              refine xJ.sub (L' := [(0, .ref (ρ2 this)), (1, .int x4_1), (2, .int (x4_2 + 1))]) [1, 2, 0] rfl ?_
              exact ih _ _ _ (show _ + f4 * 4 ≤ kE + 4 by omega) (show _ + f4 * 35 ≤ nE + 35 by omega) _ _ _ h hKK
            · have h := h.2 c5
              refine x_iinc (v' := x4_1 + 1) (L' := [(1, .int (x4_1 + 1)), (0, .ref (ρ2 this)), (2, .int x4_2)]) hC 1 rfl dX6_publishSubscriptions_48 rfl (by decide) (by first | rfl | simp (decide := true) [rv_cat, cat_ref, cat_int]) ?_
              refine x_iinc (v' := x4_2 + 1) (L' := [(2, .int (x4_2 + 1)), (1, .int (x4_1 + 1)), (0, .ref (ρ2 this))]) hC 2 rfl dX6_publishSubscriptions_51 rfl (by decide) (by first | rfl | simp (decide := true) [rv_cat, cat_ref, cat_int]) ?_
              refine x_goto (tgt := 4) hC dX6_publishSubscriptions_54 (by decide) ?_
              refine xJ.sub (L' := [(0, .ref (ρ2 this)), (1, .int (x4_1 + 1)), (2, .int (x4_2 + 1))]) [2, 1, 0] rfl ?_
              exact ih _ _ _ (show _ + f4 * 4 ≤ kE + 4 by omega) (show _ + f4 * 35 ≤ nE + 35 by omega) _ _ _ h hKK
set_option maxHeartbeats 4000000 in
set_option maxRecDepth 20000 in
theorem m6_publishSubscriptions (l : Launch) (hl : l.stackTraces = false) (G : xG) (ρ : Nm → Nat) (this : Nm) (σ : PH) (Q : Int32 → PH → Prop) (h : w6_publishSubscriptions this σ Q) : xMet l yX6_publishSubscriptions (.code yX6_publishSubscriptions cX6_publishSubscriptions 4 (some .int)) rm6_publishSubscriptions G ρ σ [.ref (ρ this)] (eIA Q) xNo := by
  refine xMet.of hl (by decide +kernel) (Nat.le_of_ble_eq_true rfl) (fun X hC hr hn htab h0 => ?_)
  have hC : xC G X "PlantServer" cX6_publishSubscriptions 4 rm6_publishSubscriptions := hC
  unfold w6_publishSubscriptions at h
  refine xJ.loc (L' := [(0, .ref (ρ this))]) rfl ?_
  refine x_iconst (v := 0) hC dX6_publishSubscriptions_0 (by decide) ?_
  refine x_istore_n (L' := [(1, .int 0), (0, .ref (ρ this))]) hC dX6_publishSubscriptions_1 (by decide) (by first | rfl | simp (decide := true) [rv_cat, cat_ref, cat_int]) ?_
  refine x_iconst (v := 0) hC dX6_publishSubscriptions_2 (by decide) ?_
  refine x_istore_n (L' := [(2, .int 0), (1, .int 0), (0, .ref (ρ this))]) hC dX6_publishSubscriptions_3 (by decide) (by first | rfl | simp (decide := true) [rv_cat, cat_ref, cat_int]) ?_
  refine xJ.sub (L' := [(0, .ref (ρ this)), (1, .int 0), (2, .int 0)]) [2, 1, 0] rfl ?_
  obtain ⟨f4, hf4, h⟩ := h
  refine ml6_publishSubscriptions_4 hC hr htab this (16) (140) (by decide) (by decide) _ Q _ f4 _ _ _ (show _ + f4 * 4 ≤ _ + 4 by omega) (show _ + f4 * 35 ≤ _ + 35 by omega) _ _ _ h (fun y1 y2 ρ3 τ1 h => ?_)
  refine x_iload_n hC 1 rfl dX6_publishSubscriptions_57 ?_
  exact x_iret hC hr dX6_publishSubscriptions_58 (by decide) (by decide) ⟨_, rfl, h⟩
/-! PlantServer.pass -/
theorem dX6_pass_0 : decode cX6_pass 0 = .ok (.iload_n 1, 1) := by decide +kernel
theorem dX6_pass_1 : decode cX6_pass 1 = .ok (.iconst 1, 1) := by decide +kernel
theorem dX6_pass_2 : decode cX6_pass 2 = .ok (.bipush 50, 2) := by decide +kernel
theorem dX6_pass_4 : decode cX6_pass 4 = .ok (.invokestatic 52, 3) := by decide +kernel
theorem dX6_pass_7 : decode cX6_pass 7 = .ok (.iload_n 1, 1) := by decide +kernel
theorem dX6_pass_8 : decode cX6_pass 8 = .ok (.sipush 5000, 3) := by decide +kernel
theorem dX6_pass_11 : decode cX6_pass 11 = .ok (.aload_n 0, 1) := by decide +kernel
theorem dX6_pass_12 : decode cX6_pass 12 = .ok (.getfield 45, 3) := by decide +kernel
theorem dX6_pass_15 : decode cX6_pass 15 = .ok (.isub, 1) := by decide +kernel
theorem dX6_pass_16 : decode cX6_pass 16 = .ok (.if_icmp .le 13, 3) := by decide +kernel
theorem dX6_pass_19 : decode cX6_pass 19 = .ok (.new 59, 3) := by decide +kernel
theorem dX6_pass_22 : decode cX6_pass 22 = .ok (.dup, 1) := by decide +kernel
theorem dX6_pass_23 : decode cX6_pass 23 = .ok (.ldc 129, 2) := by decide +kernel
theorem dX6_pass_25 : decode cX6_pass 25 = .ok (.invokespecial 63, 3) := by decide +kernel
theorem dX6_pass_28 : decode cX6_pass 28 = .ok (.athrow, 1) := by decide +kernel
theorem dX6_pass_29 : decode cX6_pass 29 = .ok (.iconst 0, 1) := by decide +kernel
theorem dX6_pass_30 : decode cX6_pass 30 = .ok (.istore_n 2, 1) := by decide +kernel
theorem dX6_pass_31 : decode cX6_pass 31 = .ok (.iconst 0, 1) := by decide +kernel
theorem dX6_pass_32 : decode cX6_pass 32 = .ok (.istore_n 3, 1) := by decide +kernel
theorem dX6_pass_33 : decode cX6_pass 33 = .ok (.iload_n 3, 1) := by decide +kernel
theorem dX6_pass_34 : decode cX6_pass 34 = .ok (.iload_n 1, 1) := by decide +kernel
theorem dX6_pass_35 : decode cX6_pass 35 = .ok (.if_icmp .ge 30, 3) := by decide +kernel
theorem dX6_pass_38 : decode cX6_pass 38 = .ok (.aload_n 0, 1) := by decide +kernel
theorem dX6_pass_39 : decode cX6_pass 39 = .ok (.dup, 1) := by decide +kernel
theorem dX6_pass_40 : decode cX6_pass 40 = .ok (.getfield 45, 3) := by decide +kernel
theorem dX6_pass_43 : decode cX6_pass 43 = .ok (.iconst 1, 1) := by decide +kernel
theorem dX6_pass_44 : decode cX6_pass 44 = .ok (.iadd, 1) := by decide +kernel
theorem dX6_pass_45 : decode cX6_pass 45 = .ok (.putfield 45, 3) := by decide +kernel
theorem dX6_pass_48 : decode cX6_pass 48 = .ok (.aload_n 0, 1) := by decide +kernel
theorem dX6_pass_49 : decode cX6_pass 49 = .ok (.invokevirtual 131, 3) := by decide +kernel
theorem dX6_pass_52 : decode cX6_pass 52 = .ok (.iload_n 2, 1) := by decide +kernel
theorem dX6_pass_53 : decode cX6_pass 53 = .ok (.aload_n 0, 1) := by decide +kernel
theorem dX6_pass_54 : decode cX6_pass 54 = .ok (.invokevirtual 134, 3) := by decide +kernel
theorem dX6_pass_57 : decode cX6_pass 57 = .ok (.iadd, 1) := by decide +kernel
theorem dX6_pass_58 : decode cX6_pass 58 = .ok (.istore_n 2, 1) := by decide +kernel
theorem dX6_pass_59 : decode cX6_pass 59 = .ok (.iinc 3 1, 3) := by decide +kernel
theorem dX6_pass_62 : decode cX6_pass 62 = .ok (.goto (-29), 3) := by decide +kernel
theorem dX6_pass_65 : decode cX6_pass 65 = .ok (.iload_n 2, 1) := by decide +kernel
theorem dX6_pass_66 : decode cX6_pass 66 = .ok (.ireturn, 1) := by decide +kernel
abbrev rm6_pass : Room := { frames := 7, cells := 1021, slots := 8931, locals := 151 }
theorem hd6_pass : yX6_pass.cls ≠ "java/lang/invoke/MethodHandle" ∧ yX6_pass.cls ≠ "java/lang/invoke/VarHandle" ∧ (parseMethodDescriptor yX6_pass.desc).map (fun d => d.parameters.length) = some 1 := by decide +kernel
set_option maxHeartbeats 4000000 in
set_option maxRecDepth 20000 in
theorem ml6_pass_33 {G : xG} {X : xX} (hC : xC G X "PlantServer" cX6_pass 4 rm6_pass) (hr : xRt X (some .int)) (htab : xTab X []) (this : Nm) (p1 : Int32) (kE nE : Nat) (hkE : kE + 20 ≤ 1021) (hnE : nE + 175 ≤ 8931) (K : Int32 → Int32 → PH → Prop) (Q : Int32 → PH → Prop) (Xp : String → PH → Prop) : ∀ (f33 : Nat) (ρ : Nm → Nat) (k n : Nat), k + f33 * 20 ≤ kE + 20 → n + f33 * 175 ≤ nE + 175 → ∀ (x33_2 : Int32) (x33_3 : Int32) (τ33 : PH), l6_pass_33 this p1 K Q f33 x33_2 x33_3 τ33 → (∀ (x33_2 : Int32) (x33_3 : Int32) (ρ : Nm → Nat) (τ33 : PH), K x33_2 x33_3 τ33 → xJ G X (xT X (eIA Q) Xp G rm6_pass) 4 ρ τ33 kE nE 65 [(0, .ref (ρ this)), (1, .int p1), (2, .int x33_2), (3, .int x33_3)] []) → xJ G X (xT X (eIA Q) Xp G rm6_pass) 4 ρ τ33 k n 33 [(0, .ref (ρ this)), (1, .int p1), (2, .int x33_2), (3, .int x33_3)] [] := by
  intro f33
  induction f33 with
  | zero => intro ρ k n hk1 hk2 x33_2 x33_3 τ33 h hKK; unfold l6_pass_33 at h; exact h.elim
  | succ f33 ih =>
    intro ρ k n hk1 hk2 x33_2 x33_3 τ33 h hKK
    unfold l6_pass_33 at h
    refine x_iload_n hC 3 rfl dX6_pass_33 ?_
    refine x_iload_n hC 1 rfl dX6_pass_34 ?_
    refine x_icmp_ge (tgt := 65) hC dX6_pass_35 (by decide) (fun c2 => ?_) (fun c2 => ?_)
    · have h := h.1 c2
      refine xJ.wid (k' := kE) (n' := nE) (by omega) (by omega) ?_
      exact hKK _ _ _ _ h
    · have h := h.2 c2
      refine x_aload_n hC 0 rfl dX6_pass_38 ?_
      refine x_dup hC (by first | rfl | exact rv_cat) dX6_pass_39 ?_
      obtain ⟨k2, h⟩ := h
      refine x_getI (n0 := this) hC (ci := 6) (T := TX6) (N := 9) (C := RX6) 8 k2 rfl rfl (by decide) rfl q57 dX6_pass_40 ?_
      refine x_iconst (v := 1) hC dX6_pass_43 (by decide) ?_
      refine x_iadd hC dX6_pass_44 ?_
      refine x_putI (n0 := this) hC (ci := 6) (T := TX6) (N := 9) (C := RX6) 8 k2 rfl rfl (by decide) rfl q57 rfl (tyX6_ok 8 (by decide)) dX6_pass_45 ?_
      refine xJ.nmH (fun σ2 e1 => ?_)
      have h := h σ2 e1
      have r1 : hR σ2 = hR τ33 ∧ hL σ2 = hL τ33 := by rw [e1]; exact ⟨rfl, rfl⟩
      refine x_aload_n hC 0 rfl dX6_pass_48 ?_
      have k3 : hK σ2 this = 7 := by rw [e1]; exact k2
      refine x_callV (n0 := this) (as := []) (rest := []) hC (ci := 6) (r := (RX6, TX6, 9)) k3 rfl (fun l hl => m6_sampleItems l hl G ρ this σ2 _ h) q507 q509 s6 q1 q510 ⟨rfl, hd6_sampleItems⟩ (by decide) ⟨(show _ + 0 ≤ 1021 by omega), (show _ + 0 ≤ 8931 by omega)⟩ (by first | exact Nat.le_of_ble_eq_true rfl | (simp [rv_cat]; done) | (simp (decide := true) [rv_cat, cat_ref, cat_int]; done)) rfl dX6_pass_49 (fun E σ9 hx => False.elim hx) (fun v2 σ3 ρ2 hp2 hag2 => ?_)
      obtain ⟨e9, e8, h⟩ := hp2
      rw [e8, e9]
      refine xJ.nrm (k' := k + 0) (n' := n + 0) (pc' := 52) (st' := []) rfl rfl rfl rfl ?_
      refine x_iload_n hC 2 rfl dX6_pass_52 ?_
      refine x_aload_n hC 0 rfl dX6_pass_53 ?_
      have k4 : hK σ3 this = 7 := (hag2 this (by rw [k3]; decide)).1.trans k3
      refine xJ.sub (L' := [(0, .ref (ρ this)), (1, .int p1), (3, .int x33_3)]) [0, 1, 3] rfl ?_
      refine x_callV (n0 := this) (as := []) (rest := [.int x33_2]) hC (ci := 6) (r := (RX6, TX6, 9)) k4 rfl (fun l hl => m6_publishSubscriptions l hl G ρ this σ3 _ h) q526 q528 s7 q1 q529 ⟨rfl, hd6_publishSubscriptions⟩ (by decide) ⟨(show _ + 20 ≤ 1021 by omega), (show _ + 175 ≤ 8931 by omega)⟩ (by first | exact Nat.le_of_ble_eq_true rfl | (simp [rv_cat]; done) | (simp (decide := true) [rv_cat, cat_ref, cat_int]; done)) rfl dX6_pass_54 (fun E σ9 hx => False.elim hx) (fun v3 σ4 ρ3 hp3 hag3 => ?_)
      obtain ⟨r2, e8, h⟩ := hp3
      rw [e8]
      rw [← (hag3 this (by rw [k4]; decide)).2]
      refine xJ.nrm (k' := k + 20) (n' := n + 175) (pc' := 57) (st' := [.int r2, .int x33_2]) rfl rfl rfl rfl ?_
      refine x_iadd hC dX6_pass_57 ?_
      refine x_istore_n (L' := [(2, .int (x33_2 + r2)), (0, .ref (ρ3 this)), (1, .int p1), (3, .int x33_3)]) hC dX6_pass_58 (by decide) (by first | rfl | simp (decide := true) [rv_cat, cat_ref, cat_int]) ?_
      refine x_iinc (v' := x33_3 + 1) (L' := [(3, .int (x33_3 + 1)), (2, .int (x33_2 + r2)), (0, .ref (ρ3 this)), (1, .int p1)]) hC 3 rfl dX6_pass_59 rfl (by decide) (by first | rfl | simp (decide := true) [rv_cat, cat_ref, cat_int]) ?_
      refine x_goto (tgt := 33) hC dX6_pass_62 (by decide) ?_
      refine xJ.sub (L' := [(0, .ref (ρ3 this)), (1, .int p1), (2, .int (x33_2 + r2)), (3, .int (x33_3 + 1))]) [2, 3, 1, 0] rfl ?_
      exact ih _ _ _ (show _ + f33 * 20 ≤ kE + 20 by omega) (show _ + f33 * 175 ≤ nE + 175 by omega) _ _ _ h hKK
set_option maxHeartbeats 4000000 in
set_option maxRecDepth 20000 in
theorem m6_pass (l : Launch) (hl : l.stackTraces = false) (G : xG) (ρ : Nm → Nat) (this : Nm) (p1 : Int32) (σ : PH) (Q : Int32 → PH → Prop) (Xp : String → PH → Prop) (h : w6_pass this p1 σ Q Xp) : xMet l yX6_pass (.code yX6_pass cX6_pass 4 (some .int)) rm6_pass G ρ σ [.ref (ρ this), .int p1] (eIA Q) Xp := by
  refine xMet.of hl (by decide +kernel) (Nat.le_of_ble_eq_true rfl) (fun X hC hr hn htab h0 => ?_)
  have hC : xC G X "PlantServer" cX6_pass 4 rm6_pass := hC
  unfold w6_pass at h
  refine xJ.loc (L' := [(0, .ref (ρ this)), (1, .int p1)]) rfl ?_
  refine x_iload_n hC 1 rfl dX6_pass_0 ?_
  refine x_iconst (v := 1) hC dX6_pass_1 (by decide) ?_
  refine x_bipush (v := 50) hC dX6_pass_2 (by decide) ?_
  refine x_callS (as := [.int p1, .int 1, .int 50]) (rest := []) hC (fun l hl => m6_checkRange l hl G ρ p1 1 50 σ _ Xp h) q96 q97 q1 q98 hd6_checkRange (by decide) ⟨(by decide), (by decide)⟩ (by first | exact Nat.le_of_ble_eq_true rfl | (simp [rv_cat]; done) | (simp (decide := true) [rv_cat, cat_ref, cat_int]; done)) rfl dX6_pass_4 (fun E σ9 hx => x_out hC h0 htab (by decide) (by decide) hx) (fun v1 σ1 ρ1 hp1 hag1 => ?_)
  obtain ⟨e9, e8, h⟩ := hp1
  rw [e8, e9]
  refine xJ.nrm (k' := 1) (n' := 6) (pc' := 7) (st' := []) rfl rfl rfl rfl ?_
  refine x_iload_n hC 1 rfl dX6_pass_7 ?_
  refine x_sipush (v := 5000) hC dX6_pass_8 (by decide) ?_
  refine x_aload_n hC 0 rfl dX6_pass_11 ?_
  obtain ⟨k1, h⟩ := h
  refine x_getI (n0 := this) hC (ci := 6) (T := TX6) (N := 9) (C := RX6) 8 k1 rfl rfl (by decide) rfl q57 dX6_pass_12 ?_
  refine x_isub hC dX6_pass_15 ?_
  refine x_icmp_le (tgt := 29) hC dX6_pass_16 (by decide) (fun c1 => ?_) (fun c1 => ?_)
  · have h := h.1 c1
    refine x_iconst (v := 0) hC dX6_pass_29 (by decide) ?_
    refine x_istore_n (L' := [(2, .int 0), (0, .ref (ρ this)), (1, .int p1)]) hC dX6_pass_30 (by decide) (by first | rfl | simp (decide := true) [rv_cat, cat_ref, cat_int]) ?_
    refine x_iconst (v := 0) hC dX6_pass_31 (by decide) ?_
    refine x_istore_n (L' := [(3, .int 0), (2, .int 0), (0, .ref (ρ this)), (1, .int p1)]) hC dX6_pass_32 (by decide) (by first | rfl | simp (decide := true) [rv_cat, cat_ref, cat_int]) ?_
    refine xJ.sub (L' := [(0, .ref (ρ this)), (1, .int p1), (2, .int 0), (3, .int 0)]) [2, 3, 1, 0] rfl ?_
    obtain ⟨f33, hf33, h⟩ := h
    refine ml6_pass_33 hC hr htab this p1 (1001) (8756) (by decide) (by decide) _ Q _ f33 _ _ _ (show _ + f33 * 20 ≤ _ + 20 by omega) (show _ + f33 * 175 ≤ _ + 175 by omega) _ _ _ h (fun y1 y2 ρ4 τ1 h => ?_)
    refine x_iload_n hC 2 rfl dX6_pass_65 ?_
    exact x_iret hC hr dX6_pass_66 (by decide) (by decide) ⟨_, rfl, h⟩
  · have h := h.2 c1
    exact x_throw (E := xIS) (text := "there would be more than 5000 ticks") (is := 129) hC h0 htab (by decide +kernel) (by decide +kernel) q168 q10 xhat_xIS xgood_xIS dX6_pass_19 dX6_pass_22 dX6_pass_23 dX6_pass_25 dX6_pass_28 (by decide) (by first | exact Nat.le_of_ble_eq_true rfl | (simp [rv_cat]; done) | (simp (decide := true) [rv_cat, cat_ref, cat_int]; done)) (by decide) (by decide) h
/-! PlantServerLaw.pass -/
theorem dL_pass_0 : decode cL_pass 0 = .ok (.aload_n 0, 1) := by decide +kernel
theorem dL_pass_1 : decode cL_pass 1 = .ok (.iload_n 1, 1) := by decide +kernel
theorem dL_pass_2 : decode cL_pass 2 = .ok (.invokevirtual 44, 3) := by decide +kernel
theorem dL_pass_5 : decode cL_pass 5 = .ok (.istore_n 2, 1) := by decide +kernel
theorem dL_pass_6 : decode cL_pass 6 = .ok (.goto 13, 3) := by decide +kernel
theorem dL_pass_9 : decode cL_pass 9 = .ok (.astore_n 3, 1) := by decide +kernel
theorem dL_pass_10 : decode cL_pass 10 = .ok (.sipush (-7200), 3) := by decide +kernel
theorem dL_pass_13 : decode cL_pass 13 = .ok (.ireturn, 1) := by decide +kernel
theorem dL_pass_14 : decode cL_pass 14 = .ok (.astore_n 3, 1) := by decide +kernel
theorem dL_pass_15 : decode cL_pass 15 = .ok (.sipush (-7300), 3) := by decide +kernel
theorem dL_pass_18 : decode cL_pass 18 = .ok (.ireturn, 1) := by decide +kernel
theorem dL_pass_19 : decode cL_pass 19 = .ok (.iload_n 2, 1) := by decide +kernel
theorem dL_pass_20 : decode cL_pass 20 = .ok (.ireturn, 1) := by decide +kernel
abbrev rmL_pass : Room := { frames := 8, cells := 1021, slots := 8931, locals := 174 }
theorem hdL_pass : yL_pass.cls ≠ "java/lang/invoke/MethodHandle" ∧ yL_pass.cls ≠ "java/lang/invoke/VarHandle" ∧ (parseMethodDescriptor yL_pass.desc).map (fun d => d.parameters.length) = some 2 := by decide +kernel
set_option maxHeartbeats 4000000 in
set_option maxRecDepth 20000 in
theorem mL_pass (l : Launch) (hl : l.stackTraces = false) (G : xG) (ρ : Nm → Nat) (a1 : Nm) (p2 : Int32) (σ : PH) (Q : Int32 → PH → Prop) (h : wL_pass a1 p2 σ Q) : xMet l yL_pass (.codeWith yL_pass cL_pass 4 (some .int) [(0, 6, 9, 16), (0, 6, 14, 22)]) rmL_pass G ρ σ [.ref (ρ a1), .int p2] (eIA Q) xNo := by
  refine xMet.ofW hl (by decide +kernel) (Nat.le_of_ble_eq_true rfl) (fun X hC hr hn htab h0 => ?_)
  have hC : xC G X "PlantServerLaw" cL_pass 4 rmL_pass := hC
  unfold wL_pass at h
  refine xJ.loc (L' := [(0, .ref (ρ a1)), (1, .int p2)]) rfl ?_
  refine x_aload_n hC 0 rfl dL_pass_0 ?_
  refine x_iload_n hC 1 rfl dL_pass_1 ?_
  obtain ⟨k1, h⟩ := h
  refine xJ.sub (L' := []) [] rfl ?_
  refine x_callV (n0 := a1) (as := [.int p2]) (rest := []) hC (ci := 6) (r := (RX6, TX6, 9)) k1 rfl (fun l hl => m6_pass l hl G ρ a1 p2 σ _ _ h) q502 q503 q504 q1 q505 ⟨rfl, hd6_pass⟩ (by decide) ⟨(by decide), (by decide)⟩ (by first | exact Nat.le_of_ble_eq_true rfl | (simp [rv_cat]; done) | (simp (decide := true) [rv_cat, cat_ref, cat_int]; done)) rfl dL_pass_2 (fun E σ2 hx => ?_) (fun v1 σ1 ρ1 hp1 hag1 => ?_)
  · have hE9 := hx.2.2
    rcases hE9 with he | he
    · have h := hx.1 he
      subst he
      refine x_catch hC [] [(0, 6, 14, 22)] (0, 6, 9, 16) htab (by intro z hz; simp at hz) (by decide) (by decide) q90 xcast_xIA (fun qx1 => ?_)
      refine xJ.nrm (k' := 1021) (n' := 8931) (pc' := 9) (st' := [.ref qx1]) rfl rfl rfl rfl ?_
      refine x_astore_n (L' := [(3, .ref qx1)]) hC dL_pass_9 (by decide) (by first | rfl | simp (decide := true) [rv_cat, cat_ref, cat_int]) ?_
      refine x_sipush (v := (-7200)) hC dL_pass_10 (by decide) ?_
      exact x_iret hC hr dL_pass_13 (by decide) (by decide) ⟨_, rfl, h⟩
    · have h := hx.2.1 he
      subst he
      refine x_catch hC [(0, 6, 9, 16)] [] (0, 6, 14, 22) htab (xpass1 (E := xIS) q90 (by decide) (by decide +kernel)) (by decide) (by decide) q91 xcast_xIS (fun qx2 => ?_)
      refine xJ.nrm (k' := 1021) (n' := 8931) (pc' := 14) (st' := [.ref qx2]) rfl rfl rfl rfl ?_
      refine x_astore_n (L' := [(3, .ref qx2)]) hC dL_pass_14 (by decide) (by first | rfl | simp (decide := true) [rv_cat, cat_ref, cat_int]) ?_
      refine x_sipush (v := (-7300)) hC dL_pass_15 (by decide) ?_
      exact x_iret hC hr dL_pass_18 (by decide) (by decide) ⟨_, rfl, h⟩
  · obtain ⟨r1, e8, h⟩ := hp1
    rw [e8]
    refine xJ.nrm (k' := 1021) (n' := 8931) (pc' := 5) (st' := [.int r1]) rfl rfl rfl rfl ?_
    refine x_istore_n (L' := [(2, .int r1)]) hC dL_pass_5 (by decide) (by first | rfl | simp (decide := true) [rv_cat, cat_ref, cat_int]) ?_
    refine x_goto (tgt := 19) hC dL_pass_6 (by decide) ?_
    refine x_iload_n hC 0 rfl dL_pass_19 ?_
    exact x_iret hC hr dL_pass_20 (by decide) (by decide) ⟨_, rfl, h⟩
