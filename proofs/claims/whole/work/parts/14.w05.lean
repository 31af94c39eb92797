/-! PlantServer$Queue.dropFirst -/
theorem dX3_dropFirst_0 : decode cX3_dropFirst 0 = .ok (.iconst 1, 1) := by decide +kernel
theorem dX3_dropFirst_1 : decode cX3_dropFirst 1 = .ok (.istore_n 1, 1) := by decide +kernel
theorem dX3_dropFirst_2 : decode cX3_dropFirst 2 = .ok (.iload_n 1, 1) := by decide +kernel
theorem dX3_dropFirst_3 : decode cX3_dropFirst 3 = .ok (.aload_n 0, 1) := by decide +kernel
theorem dX3_dropFirst_4 : decode cX3_dropFirst 4 = .ok (.getfield 19, 3) := by decide +kernel
theorem dX3_dropFirst_7 : decode cX3_dropFirst 7 = .ok (.if_icmp .ge 37, 3) := by decide +kernel
theorem dX3_dropFirst_10 : decode cX3_dropFirst 10 = .ok (.aload_n 0, 1) := by decide +kernel
theorem dX3_dropFirst_11 : decode cX3_dropFirst 11 = .ok (.getfield 9, 3) := by decide +kernel
theorem dX3_dropFirst_14 : decode cX3_dropFirst 14 = .ok (.iload_n 1, 1) := by decide +kernel
theorem dX3_dropFirst_15 : decode cX3_dropFirst 15 = .ok (.iconst 1, 1) := by decide +kernel
theorem dX3_dropFirst_16 : decode cX3_dropFirst 16 = .ok (.isub, 1) := by decide +kernel
theorem dX3_dropFirst_17 : decode cX3_dropFirst 17 = .ok (.aload_n 0, 1) := by decide +kernel
theorem dX3_dropFirst_18 : decode cX3_dropFirst 18 = .ok (.getfield 9, 3) := by decide +kernel
theorem dX3_dropFirst_21 : decode cX3_dropFirst 21 = .ok (.iload_n 1, 1) := by decide +kernel
theorem dX3_dropFirst_22 : decode cX3_dropFirst 22 = .ok (.iaload, 1) := by decide +kernel
theorem dX3_dropFirst_23 : decode cX3_dropFirst 23 = .ok (.iastore, 1) := by decide +kernel
theorem dX3_dropFirst_24 : decode cX3_dropFirst 24 = .ok (.aload_n 0, 1) := by decide +kernel
theorem dX3_dropFirst_25 : decode cX3_dropFirst 25 = .ok (.getfield 15, 3) := by decide +kernel
theorem dX3_dropFirst_28 : decode cX3_dropFirst 28 = .ok (.iload_n 1, 1) := by decide +kernel
theorem dX3_dropFirst_29 : decode cX3_dropFirst 29 = .ok (.iconst 1, 1) := by decide +kernel
theorem dX3_dropFirst_30 : decode cX3_dropFirst 30 = .ok (.isub, 1) := by decide +kernel
theorem dX3_dropFirst_31 : decode cX3_dropFirst 31 = .ok (.aload_n 0, 1) := by decide +kernel
theorem dX3_dropFirst_32 : decode cX3_dropFirst 32 = .ok (.getfield 15, 3) := by decide +kernel
theorem dX3_dropFirst_35 : decode cX3_dropFirst 35 = .ok (.iload_n 1, 1) := by decide +kernel
theorem dX3_dropFirst_36 : decode cX3_dropFirst 36 = .ok (.baload, 1) := by decide +kernel
theorem dX3_dropFirst_37 : decode cX3_dropFirst 37 = .ok (.bastore, 1) := by decide +kernel
theorem dX3_dropFirst_38 : decode cX3_dropFirst 38 = .ok (.iinc 1 1, 3) := by decide +kernel
theorem dX3_dropFirst_41 : decode cX3_dropFirst 41 = .ok (.goto (-39), 3) := by decide +kernel
theorem dX3_dropFirst_44 : decode cX3_dropFirst 44 = .ok (.aload_n 0, 1) := by decide +kernel
theorem dX3_dropFirst_45 : decode cX3_dropFirst 45 = .ok (.getfield 19, 3) := by decide +kernel
theorem dX3_dropFirst_48 : decode cX3_dropFirst 48 = .ok (.ifCond .le 13, 3) := by decide +kernel
theorem dX3_dropFirst_51 : decode cX3_dropFirst 51 = .ok (.aload_n 0, 1) := by decide +kernel
theorem dX3_dropFirst_52 : decode cX3_dropFirst 52 = .ok (.dup, 1) := by decide +kernel
theorem dX3_dropFirst_53 : decode cX3_dropFirst 53 = .ok (.getfield 19, 3) := by decide +kernel
theorem dX3_dropFirst_56 : decode cX3_dropFirst 56 = .ok (.iconst 1, 1) := by decide +kernel
theorem dX3_dropFirst_57 : decode cX3_dropFirst 57 = .ok (.isub, 1) := by decide +kernel
theorem dX3_dropFirst_58 : decode cX3_dropFirst 58 = .ok (.putfield 19, 3) := by decide +kernel
theorem dX3_dropFirst_61 : decode cX3_dropFirst 61 = .ok (.return_, 1) := by decide +kernel
abbrev rm3_dropFirst : Room := { frames := 0, cells := 0, slots := 0, locals := 0 }
theorem hd3_dropFirst : yX3_dropFirst.cls ≠ "java/lang/invoke/MethodHandle" ∧ yX3_dropFirst.cls ≠ "java/lang/invoke/VarHandle" ∧ (parseMethodDescriptor yX3_dropFirst.desc).map (fun d => d.parameters.length) = some 0 := by decide +kernel
set_option maxHeartbeats 4000000 in
set_option maxRecDepth 20000 in
theorem ml3_dropFirst_2 {G : xG} {X : xX} (hC : xC G X "PlantServer$Queue" cX3_dropFirst 2 rm3_dropFirst) (hr : xRt X none) (htab : xTab X []) (this : Nm) {ρ : Nm → Nat} (h0 : xR0 X ρ) (k n : Nat) (hk1 : k ≤ 0) (hk2 : n ≤ 0) (K : Int32 → PH → Prop) (Q : PH → Prop) (Xp : String → PH → Prop) : ∀ (f2 : Nat) (x2_1 : Int32) (τ2 : PH), l3_dropFirst_2 this K Q f2 x2_1 τ2 → (∀ (x2_1 : Int32) (τ2 : PH), K x2_1 τ2 → xJ G X (xT X (eV ρ Q) Xp G rm3_dropFirst) 2 ρ τ2 k n 44 [(0, .ref (ρ this)), (1, .int x2_1)] []) → xJ G X (xT X (eV ρ Q) Xp G rm3_dropFirst) 2 ρ τ2 k n 2 [(0, .ref (ρ this)), (1, .int x2_1)] [] := by
  intro f2
  induction f2 with
  | zero => intro x2_1 τ2 h hKK; unfold l3_dropFirst_2 at h; exact h.elim
  | succ f2 ih =>
    intro x2_1 τ2 h hKK
    unfold l3_dropFirst_2 at h
    refine x_iload_n hC 1 rfl dX3_dropFirst_2 ?_
    refine x_aload_n hC 0 rfl dX3_dropFirst_3 ?_
    obtain ⟨k1, h⟩ := h
    refine x_getI (n0 := this) hC (ci := 3) (T := TX3) (N := 5) (C := RX3) 4 k1 rfl rfl (by decide) rfl q323 dX3_dropFirst_4 ?_
    refine x_icmp_ge (tgt := 44) hC dX3_dropFirst_7 (by decide) (fun c1 => ?_) (fun c1 => ?_)
    · have h := h.1 c1
      exact hKK _ _ h
    · have h := h.2 c1
      refine x_aload_n hC 0 rfl dX3_dropFirst_10 ?_
      refine x_getR (n0 := this) hC (ci := 3) (T := TX3) (N := 5) (C := RX3) 2 k1 rfl rfl (by decide) rfl q319 dX3_dropFirst_11 ?_
      refine x_iload_n hC 1 rfl dX3_dropFirst_14 ?_
      refine x_iconst (v := 1) hC dX3_dropFirst_15 (by decide) ?_
      refine x_isub hC dX3_dropFirst_16 ?_
      refine x_aload_n hC 0 rfl dX3_dropFirst_17 ?_
      refine x_getR (n0 := this) hC (ci := 3) (T := TX3) (N := 5) (C := RX3) 2 k1 rfl rfl (by decide) rfl q319 dX3_dropFirst_18 ?_
      refine x_iload_n hC 1 rfl dX3_dropFirst_21 ?_
      obtain ⟨m1, hm1, h⟩ := h
      rw [show rv ρ (hR τ2 this 2) = Value.ref (ρ m1) from by rw [hm1]; rfl]
      obtain ⟨k2, h⟩ := h
      obtain ⟨v1, h⟩ := h
      refine x_iald (a := m1) hC k2 v1 dX3_dropFirst_22 ?_
      obtain ⟨v2, h⟩ := h
      refine x_iast (a := m1) hC k2 v2 dX3_dropFirst_23 ?_
      refine xJ.nmH (fun σ1 e1 => ?_)
      have h := h σ1 e1
      have r1 : hR σ1 = hR τ2 ∧ hL σ1 = hL τ2 := by rw [e1]; exact ⟨rfl, rfl⟩
      refine x_aload_n hC 0 rfl dX3_dropFirst_24 ?_
      have k3 : hK σ1 this = 4 := by rw [e1]; exact k1
      refine x_getR (n0 := this) hC (ci := 3) (T := TX3) (N := 5) (C := RX3) 3 k3 rfl rfl (by decide) rfl q321 dX3_dropFirst_25 ?_
      rw [r1.1]
      refine x_iload_n hC 1 rfl dX3_dropFirst_28 ?_
      refine x_iconst (v := 1) hC dX3_dropFirst_29 (by decide) ?_
      refine x_isub hC dX3_dropFirst_30 ?_
      refine x_aload_n hC 0 rfl dX3_dropFirst_31 ?_
      refine x_getR (n0 := this) hC (ci := 3) (T := TX3) (N := 5) (C := RX3) 3 k3 rfl rfl (by decide) rfl q321 dX3_dropFirst_32 ?_
      rw [r1.1]
      refine x_iload_n hC 1 rfl dX3_dropFirst_35 ?_
      obtain ⟨m2, hm2, h⟩ := h
      rw [show rv ρ (hR τ2 this 3) = Value.ref (ρ m2) from by rw [hm2]; rfl]
      obtain ⟨k4, h⟩ := h
      obtain ⟨v3, h⟩ := h
      refine x_zald (a := m2) hC k4 (by rw [r1.2]; exact v3) dX3_dropFirst_36 ?_
      obtain ⟨v4, h⟩ := h
      obtain ⟨zh1, h⟩ := h
      refine x_zast (a := m2) hC zh1 k4 (by rw [r1.2]; exact v4) dX3_dropFirst_37 ?_
      refine xJ.nmH (fun σ2 e2 => ?_)
      have h := h σ2 e2
      have r2 : hR σ2 = hR τ2 ∧ hL σ2 = hL τ2 := by rw [e2]; exact ⟨r1.1, r1.2⟩
      refine x_iinc (v' := x2_1 + 1) (L' := [(1, .int (x2_1 + 1)), (0, .ref (ρ this))]) hC 1 rfl dX3_dropFirst_38 rfl (by decide) (by first | rfl | simp (decide := true) [rv_cat, cat_ref, cat_int]) ?_
      refine x_goto (tgt := 2) hC dX3_dropFirst_41 (by decide) ?_
      refine xJ.sub (L' := [(0, .ref (ρ this)), (1, .int (x2_1 + 1))]) [1, 0] rfl ?_
      exact ih _ _ h hKK
set_option maxHeartbeats 4000000 in
set_option maxRecDepth 20000 in
theorem m3_dropFirst (l : Launch) (hl : l.stackTraces = false) (G : xG) (ρ : Nm → Nat) (this : Nm) (σ : PH) (Q : PH → Prop) (h : w3_dropFirst this σ Q) : xMet l yX3_dropFirst (.code yX3_dropFirst cX3_dropFirst 2 none) rm3_dropFirst G ρ σ [.ref (ρ this)] (eV ρ Q) xNo := by
  refine xMet.of hl (by decide +kernel) (Nat.le_of_ble_eq_true rfl) (fun X hC hr hn htab h0 => ?_)
  have hC : xC G X "PlantServer$Queue" cX3_dropFirst 2 rm3_dropFirst := hC
  unfold w3_dropFirst at h
  refine xJ.loc (L' := [(0, .ref (ρ this))]) rfl ?_
  refine x_iconst (v := 1) hC dX3_dropFirst_0 (by decide) ?_
  refine x_istore_n (L' := [(1, .int 1), (0, .ref (ρ this))]) hC dX3_dropFirst_1 (by decide) (by first | rfl | simp (decide := true) [rv_cat, cat_ref, cat_int]) ?_
  refine xJ.sub (L' := [(0, .ref (ρ this)), (1, .int 1)]) [1, 0] rfl ?_
  obtain ⟨f2, h⟩ := h
  refine ml3_dropFirst_2 hC hr htab this h0 (0) (0) (by decide) (by decide) _ Q _ f2 _ _ h (fun y1 τ1 h => ?_)
  refine x_aload_n hC 0 rfl dX3_dropFirst_44 ?_
  obtain ⟨k5, h⟩ := h
  refine x_getI (n0 := this) hC (ci := 3) (T := TX3) (N := 5) (C := RX3) 4 k5 rfl rfl (by decide) rfl q323 dX3_dropFirst_45 ?_
  refine x_if_le (tgt := 61) hC dX3_dropFirst_48 (by decide) (fun c2 => ?_) (fun c2 => ?_)
  · have h := h.1 c2
    exact x_vret hC hr dX3_dropFirst_61 (by decide) (by decide) ⟨rfl, rfl, h⟩
  · have h := h.2 c2
    refine x_aload_n hC 0 rfl dX3_dropFirst_51 ?_
    refine x_dup hC (by first | rfl | exact rv_cat) dX3_dropFirst_52 ?_
    refine x_getI (n0 := this) hC (ci := 3) (T := TX3) (N := 5) (C := RX3) 4 k5 rfl rfl (by decide) rfl q323 dX3_dropFirst_53 ?_
    refine x_iconst (v := 1) hC dX3_dropFirst_56 (by decide) ?_
    refine x_isub hC dX3_dropFirst_57 ?_
    refine x_putI (n0 := this) hC (ci := 3) (T := TX3) (N := 5) (C := RX3) 4 k5 rfl rfl (by decide) rfl q323 rfl (tyX3_ok 4 (by decide)) dX3_dropFirst_58 ?_
    refine xJ.nmH (fun σ3 e3 => ?_)
    have h := h σ3 e3
    have r3 : hR σ3 = hR τ1 ∧ hL σ3 = hL τ1 := by rw [e3]; exact ⟨rfl, rfl⟩
    exact x_vret hC hr dX3_dropFirst_61 (by decide) (by decide) ⟨rfl, rfl, h⟩
/-! PlantServer$Queue.put -/
theorem dX3_put_0 : decode cX3_put 0 = .ok (.aload_n 0, 1) := by decide +kernel
theorem dX3_put_1 : decode cX3_put 1 = .ok (.getfield 19, 3) := by decide +kernel
theorem dX3_put_4 : decode cX3_put 4 = .ok (.aload_n 0, 1) := by decide +kernel
theorem dX3_put_5 : decode cX3_put 5 = .ok (.getfield 23, 3) := by decide +kernel
theorem dX3_put_8 : decode cX3_put 8 = .ok (.if_icmp .ge 12, 3) := by decide +kernel
theorem dX3_put_11 : decode cX3_put 11 = .ok (.aload_n 0, 1) := by decide +kernel
theorem dX3_put_12 : decode cX3_put 12 = .ok (.iload_n 1, 1) := by decide +kernel
theorem dX3_put_13 : decode cX3_put 13 = .ok (.iconst 0, 1) := by decide +kernel
theorem dX3_put_14 : decode cX3_put 14 = .ok (.invokevirtual 30, 3) := by decide +kernel
theorem dX3_put_17 : decode cX3_put 17 = .ok (.goto 46, 3) := by decide +kernel
theorem dX3_put_20 : decode cX3_put 20 = .ok (.aload_n 0, 1) := by decide +kernel
theorem dX3_put_21 : decode cX3_put 21 = .ok (.getfield 26, 3) := by decide +kernel
theorem dX3_put_24 : decode cX3_put 24 = .ok (.ifCond .eq 23, 3) := by decide +kernel
theorem dX3_put_27 : decode cX3_put 27 = .ok (.aload_n 0, 1) := by decide +kernel
theorem dX3_put_28 : decode cX3_put 28 = .ok (.invokevirtual 34, 3) := by decide +kernel
theorem dX3_put_31 : decode cX3_put 31 = .ok (.aload_n 0, 1) := by decide +kernel
theorem dX3_put_32 : decode cX3_put 32 = .ok (.iload_n 1, 1) := by decide +kernel
theorem dX3_put_33 : decode cX3_put 33 = .ok (.iconst 0, 1) := by decide +kernel
theorem dX3_put_34 : decode cX3_put 34 = .ok (.invokevirtual 30, 3) := by decide +kernel
theorem dX3_put_37 : decode cX3_put 37 = .ok (.aload_n 0, 1) := by decide +kernel
theorem dX3_put_38 : decode cX3_put 38 = .ok (.getfield 15, 3) := by decide +kernel
theorem dX3_put_41 : decode cX3_put 41 = .ok (.iconst 0, 1) := by decide +kernel
theorem dX3_put_42 : decode cX3_put 42 = .ok (.iconst 1, 1) := by decide +kernel
theorem dX3_put_43 : decode cX3_put 43 = .ok (.bastore, 1) := by decide +kernel
theorem dX3_put_44 : decode cX3_put 44 = .ok (.goto 19, 3) := by decide +kernel
theorem dX3_put_47 : decode cX3_put 47 = .ok (.aload_n 0, 1) := by decide +kernel
theorem dX3_put_48 : decode cX3_put 48 = .ok (.aload_n 0, 1) := by decide +kernel
theorem dX3_put_49 : decode cX3_put 49 = .ok (.getfield 23, 3) := by decide +kernel
theorem dX3_put_52 : decode cX3_put 52 = .ok (.iconst 1, 1) := by decide +kernel
theorem dX3_put_53 : decode cX3_put 53 = .ok (.isub, 1) := by decide +kernel
theorem dX3_put_54 : decode cX3_put 54 = .ok (.putfield 19, 3) := by decide +kernel
theorem dX3_put_57 : decode cX3_put 57 = .ok (.aload_n 0, 1) := by decide +kernel
theorem dX3_put_58 : decode cX3_put 58 = .ok (.iload_n 1, 1) := by decide +kernel
theorem dX3_put_59 : decode cX3_put 59 = .ok (.iconst 1, 1) := by decide +kernel
theorem dX3_put_60 : decode cX3_put 60 = .ok (.invokevirtual 30, 3) := by decide +kernel
theorem dX3_put_63 : decode cX3_put 63 = .ok (.return_, 1) := by decide +kernel
abbrev rm3_put : Room := { frames := 1, cells := 0, slots := 0, locals := 22 }
theorem hd3_put : yX3_put.cls ≠ "java/lang/invoke/MethodHandle" ∧ yX3_put.cls ≠ "java/lang/invoke/VarHandle" ∧ (parseMethodDescriptor yX3_put.desc).map (fun d => d.parameters.length) = some 1 := by decide +kernel
set_option maxHeartbeats 4000000 in
set_option maxRecDepth 20000 in
theorem m3_put (l : Launch) (hl : l.stackTraces = false) (G : xG) (ρ : Nm → Nat) (this : Nm) (p1 : Int32) (σ : PH) (Q : PH → Prop) (h : w3_put this p1 σ Q) : xMet l yX3_put (.code yX3_put cX3_put 2 none) rm3_put G ρ σ [.ref (ρ this), .int p1] (eV ρ Q) xNo := by
  refine xMet.of hl (by decide +kernel) (Nat.le_of_ble_eq_true rfl) (fun X hC hr hn htab h0 => ?_)
  have hC : xC G X "PlantServer$Queue" cX3_put 2 rm3_put := hC
  unfold w3_put at h
  refine xJ.loc (L' := [(0, .ref (ρ this)), (1, .int p1)]) rfl ?_
  refine x_aload_n hC 0 rfl dX3_put_0 ?_
  obtain ⟨k1, h⟩ := h
  refine x_getI (n0 := this) hC (ci := 3) (T := TX3) (N := 5) (C := RX3) 4 k1 rfl rfl (by decide) rfl q323 dX3_put_1 ?_
  refine x_aload_n hC 0 rfl dX3_put_4 ?_
  refine x_getI (n0 := this) hC (ci := 3) (T := TX3) (N := 5) (C := RX3) 0 k1 rfl rfl (by decide) rfl q317 dX3_put_5 ?_
  refine x_icmp_ge (tgt := 20) hC dX3_put_8 (by decide) (fun c1 => ?_) (fun c1 => ?_)
  · have h := h.1 c1
    refine x_aload_n hC 0 rfl dX3_put_20 ?_
    refine x_getI (n0 := this) hC (ci := 3) (T := TX3) (N := 5) (C := RX3) 1 k1 rfl rfl (by decide) rfl q318 dX3_put_21 ?_
    refine x_if_eq (tgt := 47) hC dX3_put_24 (by decide) (fun c2 => ?_) (fun c2 => ?_)
    · have h := h.1 c2
      refine x_aload_n hC 0 rfl dX3_put_47 ?_
      refine x_aload_n hC 0 rfl dX3_put_48 ?_
      refine x_getI (n0 := this) hC (ci := 3) (T := TX3) (N := 5) (C := RX3) 0 k1 rfl rfl (by decide) rfl q317 dX3_put_49 ?_
      refine x_iconst (v := 1) hC dX3_put_52 (by decide) ?_
      refine x_isub hC dX3_put_53 ?_
      refine x_putI (n0 := this) hC (ci := 3) (T := TX3) (N := 5) (C := RX3) 4 k1 rfl rfl (by decide) rfl q323 rfl (tyX3_ok 4 (by decide)) dX3_put_54 ?_
      refine xJ.nmH (fun σ1 e1 => ?_)
      have h := h σ1 e1
      have r1 : hR σ1 = hR σ ∧ hL σ1 = hL σ := by rw [e1]; exact ⟨rfl, rfl⟩
      refine x_aload_n hC 0 rfl dX3_put_57 ?_
      refine x_iload_n hC 1 rfl dX3_put_58 ?_
      refine x_iconst (v := 1) hC dX3_put_59 (by decide) ?_
      have k2 : hK σ1 this = 4 := by rw [e1]; exact k1
      refine x_callV (n0 := this) (as := [.int p1, .int 1]) (rest := []) hC (ci := 3) (r := (RX3, TX3, 5)) k2 rfl (fun l hl => m3_append l hl G ρ this p1 1 σ1 _ h) q413 q415 s4 q13 q416 ⟨rfl, hd3_append⟩ (by decide) ⟨(by decide), (by decide)⟩ (by first | exact Nat.le_of_ble_eq_true rfl | (simp [rv_cat]; done) | (simp (decide := true) [rv_cat, cat_ref, cat_int]; done)) rfl dX3_put_60 (fun E σ9 hx => False.elim hx) (fun v1 σ2 ρ1 hp1 hag1 => ?_)
      obtain ⟨e9, e8, h⟩ := hp1
      rw [e8, e9]
      refine xJ.nrm (k' := 0) (n' := 0) (pc' := 63) (st' := []) rfl rfl rfl rfl ?_
      exact x_vret hC hr dX3_put_63 (by decide) (by decide) ⟨rfl, rfl, h⟩
    · have h := h.2 c2
      refine x_aload_n hC 0 rfl dX3_put_27 ?_
      refine x_callV (n0 := this) (as := []) (rest := []) hC (ci := 3) (r := (RX3, TX3, 5)) k1 rfl (fun l hl => m3_dropFirst l hl G ρ this σ _ h) q417 q418 q419 q13 q420 ⟨rfl, hd3_dropFirst⟩ (by decide) ⟨(by decide), (by decide)⟩ (by first | exact Nat.le_of_ble_eq_true rfl | (simp [rv_cat]; done) | (simp (decide := true) [rv_cat, cat_ref, cat_int]; done)) rfl dX3_put_28 (fun E σ9 hx => False.elim hx) (fun v2 σ3 ρ2 hp2 hag2 => ?_)
      obtain ⟨e9, e8, h⟩ := hp2
      rw [e8, e9]
      refine xJ.nrm (k' := 0) (n' := 0) (pc' := 31) (st' := []) rfl rfl rfl rfl ?_
      refine x_aload_n hC 0 rfl dX3_put_31 ?_
      refine x_iload_n hC 1 rfl dX3_put_32 ?_
      refine x_iconst (v := 0) hC dX3_put_33 (by decide) ?_
      have k3 : hK σ3 this = 4 := (hag2 this (by rw [k1]; decide)).1.trans k1
      refine x_callV (n0 := this) (as := [.int p1, .int 0]) (rest := []) hC (ci := 3) (r := (RX3, TX3, 5)) k3 rfl (fun l hl => m3_append l hl G ρ this p1 0 σ3 _ h) q413 q415 s4 q13 q416 ⟨rfl, hd3_append⟩ (by decide) ⟨(by decide), (by decide)⟩ (by first | exact Nat.le_of_ble_eq_true rfl | (simp [rv_cat]; done) | (simp (decide := true) [rv_cat, cat_ref, cat_int]; done)) rfl dX3_put_34 (fun E σ9 hx => False.elim hx) (fun v3 σ4 ρ3 hp3 hag3 => ?_)
      obtain ⟨e9, e8, h⟩ := hp3
      rw [e8, e9]
      refine xJ.nrm (k' := 0) (n' := 0) (pc' := 37) (st' := []) rfl rfl rfl rfl ?_
      refine x_aload_n hC 0 rfl dX3_put_37 ?_
      have k4 : hK σ4 this = 4 := (hag3 this (by rw [k3]; decide)).1.trans k3
      refine x_getR (n0 := this) hC (ci := 3) (T := TX3) (N := 5) (C := RX3) 3 k4 rfl rfl (by decide) rfl q321 dX3_put_38 ?_
      refine x_iconst (v := 0) hC dX3_put_41 (by decide) ?_
      refine x_iconst (v := 1) hC dX3_put_42 (by decide) ?_
      obtain ⟨m1, hm1, h⟩ := h
      rw [show rv ρ (hR σ4 this 3) = Value.ref (ρ m1) from by rw [hm1]; rfl]
      obtain ⟨k5, h⟩ := h
      obtain ⟨v4, h⟩ := h
      refine x_zast (a := m1) hC zb1 k5 v4 dX3_put_43 ?_
      refine xJ.nmH (fun σ5 e2 => ?_)
      have h := h σ5 e2
      have r2 : hR σ5 = hR σ4 ∧ hL σ5 = hL σ4 := by rw [e2]; exact ⟨rfl, rfl⟩
      refine x_goto (tgt := 63) hC dX3_put_44 (by decide) ?_
      exact x_vret hC hr dX3_put_63 (by decide) (by decide) ⟨rfl, rfl, h⟩
  · have h := h.2 c1
    refine x_aload_n hC 0 rfl dX3_put_11 ?_
    refine x_iload_n hC 1 rfl dX3_put_12 ?_
    refine x_iconst (v := 0) hC dX3_put_13 (by decide) ?_
    refine x_callV (n0 := this) (as := [.int p1, .int 0]) (rest := []) hC (ci := 3) (r := (RX3, TX3, 5)) k1 rfl (fun l hl => m3_append l hl G ρ this p1 0 σ _ h) q413 q415 s4 q13 q416 ⟨rfl, hd3_append⟩ (by decide) ⟨(by decide), (by decide)⟩ (by first | exact Nat.le_of_ble_eq_true rfl | (simp [rv_cat]; done) | (simp (decide := true) [rv_cat, cat_ref, cat_int]; done)) rfl dX3_put_14 (fun E σ9 hx => False.elim hx) (fun v5 σ6 ρ4 hp4 hag4 => ?_)
    obtain ⟨e9, e8, h⟩ := hp4
    rw [e8, e9]
    refine xJ.nrm (k' := 0) (n' := 0) (pc' := 17) (st' := []) rfl rfl rfl rfl ?_
    refine x_goto (tgt := 63) hC dX3_put_17 (by decide) ?_
    exact x_vret hC hr dX3_put_63 (by decide) (by decide) ⟨rfl, rfl, h⟩
/-! PlantServer$Item.enqueue -/
theorem dX1_enqueue_0 : decode cX1_enqueue 0 = .ok (.aload_n 0, 1) := by decide +kernel
theorem dX1_enqueue_1 : decode cX1_enqueue 1 = .ok (.getfield 51, 3) := by decide +kernel
theorem dX1_enqueue_4 : decode cX1_enqueue 4 = .ok (.iload_n 1, 1) := by decide +kernel
theorem dX1_enqueue_5 : decode cX1_enqueue 5 = .ok (.invokevirtual 95, 3) := by decide +kernel
theorem dX1_enqueue_8 : decode cX1_enqueue 8 = .ok (.aload_n 0, 1) := by decide +kernel
theorem dX1_enqueue_9 : decode cX1_enqueue 9 = .ok (.iload_n 1, 1) := by decide +kernel
theorem dX1_enqueue_10 : decode cX1_enqueue 10 = .ok (.putfield 20, 3) := by decide +kernel
theorem dX1_enqueue_13 : decode cX1_enqueue 13 = .ok (.aload_n 0, 1) := by decide +kernel
theorem dX1_enqueue_14 : decode cX1_enqueue 14 = .ok (.dup, 1) := by decide +kernel
theorem dX1_enqueue_15 : decode cX1_enqueue 15 = .ok (.getfield 17, 3) := by decide +kernel
theorem dX1_enqueue_18 : decode cX1_enqueue 18 = .ok (.iconst 1, 1) := by decide +kernel
theorem dX1_enqueue_19 : decode cX1_enqueue 19 = .ok (.iadd, 1) := by decide +kernel
theorem dX1_enqueue_20 : decode cX1_enqueue 20 = .ok (.putfield 17, 3) := by decide +kernel
theorem dX1_enqueue_23 : decode cX1_enqueue 23 = .ok (.return_, 1) := by decide +kernel
abbrev rm1_enqueue : Room := { frames := 2, cells := 0, slots := 0, locals := 43 }
theorem hd1_enqueue : yX1_enqueue.cls ≠ "java/lang/invoke/MethodHandle" ∧ yX1_enqueue.cls ≠ "java/lang/invoke/VarHandle" ∧ (parseMethodDescriptor yX1_enqueue.desc).map (fun d => d.parameters.length) = some 1 := by decide +kernel
set_option maxHeartbeats 4000000 in
set_option maxRecDepth 20000 in
theorem m1_enqueue (l : Launch) (hl : l.stackTraces = false) (G : xG) (ρ : Nm → Nat) (this : Nm) (p1 : Int32) (σ : PH) (Q : PH → Prop) (h : w1_enqueue this p1 σ Q) : xMet l yX1_enqueue (.code yX1_enqueue cX1_enqueue 2 none) rm1_enqueue G ρ σ [.ref (ρ this), .int p1] (eV ρ Q) xNo := by
  refine xMet.of hl (by decide +kernel) (Nat.le_of_ble_eq_true rfl) (fun X hC hr hn htab h0 => ?_)
  have hC : xC G X "PlantServer$Item" cX1_enqueue 2 rm1_enqueue := hC
  unfold w1_enqueue at h
  refine xJ.loc (L' := [(0, .ref (ρ this)), (1, .int p1)]) rfl ?_
  refine x_aload_n hC 0 rfl dX1_enqueue_0 ?_
  obtain ⟨k1, h⟩ := h
  refine x_getR (n0 := this) hC (ci := 1) (T := TX1) (N := 12) (C := RX1) 5 k1 rfl rfl (by decide) rfl q357 dX1_enqueue_1 ?_
  refine x_iload_n hC 1 rfl dX1_enqueue_4 ?_
  obtain ⟨m1, hm1, h⟩ := h
  rw [show rv ρ (hR σ this 5) = Value.ref (ρ m1) from by rw [hm1]; rfl]
  obtain ⟨k2, h⟩ := h
  refine x_callV (n0 := m1) (as := [.int p1]) (rest := []) hC (ci := 3) (r := (RX3, TX3, 5)) k2 rfl (fun l hl => m3_put l hl G ρ m1 p1 σ _ h) q409 q410 q411 q13 q412 ⟨rfl, hd3_put⟩ (by decide) ⟨(by decide), (by decide)⟩ (by first | exact Nat.le_of_ble_eq_true rfl | (simp [rv_cat]; done) | (simp (decide := true) [rv_cat, cat_ref, cat_int]; done)) rfl dX1_enqueue_5 (fun E σ9 hx => False.elim hx) (fun v1 σ1 ρ1 hp1 hag1 => ?_)
  obtain ⟨e9, e8, h⟩ := hp1
  rw [e8, e9]
  refine xJ.nrm (k' := 0) (n' := 0) (pc' := 8) (st' := []) rfl rfl rfl rfl ?_
  refine x_aload_n hC 0 rfl dX1_enqueue_8 ?_
  refine x_iload_n hC 1 rfl dX1_enqueue_9 ?_
  have k3 : hK σ1 this = 2 := (hag1 this (by rw [k1]; decide)).1.trans k1
  refine x_putI (n0 := this) hC (ci := 1) (T := TX1) (N := 12) (C := RX1) 9 k3 rfl rfl (by decide) rfl q367 rfl (tyX1_ok 9 (by decide)) dX1_enqueue_10 ?_
  refine xJ.nmH (fun σ2 e1 => ?_)
  have h := h σ2 e1
  have r1 : hR σ2 = hR σ1 ∧ hL σ2 = hL σ1 := by rw [e1]; exact ⟨rfl, rfl⟩
  refine x_aload_n hC 0 rfl dX1_enqueue_13 ?_
  refine x_dup hC (by first | rfl | exact rv_cat) dX1_enqueue_14 ?_
  have k4 : hK σ2 this = 2 := by rw [e1]; exact k3
  refine x_getI (n0 := this) hC (ci := 1) (T := TX1) (N := 12) (C := RX1) 8 k4 rfl rfl (by decide) rfl q365 dX1_enqueue_15 ?_
  refine x_iconst (v := 1) hC dX1_enqueue_18 (by decide) ?_
  refine x_iadd hC dX1_enqueue_19 ?_
  refine x_putI (n0 := this) hC (ci := 1) (T := TX1) (N := 12) (C := RX1) 8 k4 rfl rfl (by decide) rfl q365 rfl (tyX1_ok 8 (by decide)) dX1_enqueue_20 ?_
  refine xJ.nmH (fun σ3 e2 => ?_)
  have h := h σ3 e2
  have r2 : hR σ3 = hR σ1 ∧ hL σ3 = hL σ1 := by rw [e2]; exact ⟨r1.1, r1.2⟩
  exact x_vret hC hr dX1_enqueue_23 (by decide) (by decide) ⟨rfl, rfl, h⟩
/-! PlantServer$Item.begin -/
theorem dX1_begin_0 : decode cX1_begin 0 = .ok (.aload_n 0, 1) := by decide +kernel
theorem dX1_begin_1 : decode cX1_begin 1 = .ok (.iload_n 1, 1) := by decide +kernel
theorem dX1_begin_2 : decode cX1_begin 2 = .ok (.putfield 23, 3) := by decide +kernel
theorem dX1_begin_5 : decode cX1_begin 5 = .ok (.aload_n 0, 1) := by decide +kernel
theorem dX1_begin_6 : decode cX1_begin 6 = .ok (.iload_n 2, 1) := by decide +kernel
theorem dX1_begin_7 : decode cX1_begin 7 = .ok (.putfield 26, 3) := by decide +kernel
theorem dX1_begin_10 : decode cX1_begin 10 = .ok (.aload_n 0, 1) := by decide +kernel
theorem dX1_begin_11 : decode cX1_begin 11 = .ok (.iload_n 3, 1) := by decide +kernel
theorem dX1_begin_12 : decode cX1_begin 12 = .ok (.invokevirtual 55, 3) := by decide +kernel
theorem dX1_begin_15 : decode cX1_begin 15 = .ok (.return_, 1) := by decide +kernel
abbrev rm1_begin : Room := { frames := 3, cells := 0, slots := 0, locals := 64 }
theorem hd1_begin : yX1_begin.cls ≠ "java/lang/invoke/MethodHandle" ∧ yX1_begin.cls ≠ "java/lang/invoke/VarHandle" ∧ (parseMethodDescriptor yX1_begin.desc).map (fun d => d.parameters.length) = some 3 := by decide +kernel
set_option maxHeartbeats 4000000 in
set_option maxRecDepth 20000 in
theorem m1_begin (l : Launch) (hl : l.stackTraces = false) (G : xG) (ρ : Nm → Nat) (this : Nm) (p1 : Int32) (p2 : Int32) (p3 : Int32) (σ : PH) (Q : PH → Prop) (h : w1_begin this p1 p2 p3 σ Q) : xMet l yX1_begin (.code yX1_begin cX1_begin 4 none) rm1_begin G ρ σ [.ref (ρ this), .int p1, .int p2, .int p3] (eV ρ Q) xNo := by
  refine xMet.of hl (by decide +kernel) (Nat.le_of_ble_eq_true rfl) (fun X hC hr hn htab h0 => ?_)
  have hC : xC G X "PlantServer$Item" cX1_begin 4 rm1_begin := hC
  unfold w1_begin at h
  refine xJ.loc (L' := [(0, .ref (ρ this)), (1, .int p1), (2, .int p2), (3, .int p3)]) rfl ?_
  refine x_aload_n hC 0 rfl dX1_begin_0 ?_
  refine x_iload_n hC 1 rfl dX1_begin_1 ?_
  obtain ⟨k1, h⟩ := h
  refine x_putI (n0 := this) hC (ci := 1) (T := TX1) (N := 12) (C := RX1) 10 k1 rfl rfl (by decide) rfl q368 rfl (tyX1_ok 10 (by decide)) dX1_begin_2 ?_
  refine xJ.nmH (fun σ1 e1 => ?_)
  have h := h σ1 e1
  have r1 : hR σ1 = hR σ ∧ hL σ1 = hL σ := by rw [e1]; exact ⟨rfl, rfl⟩
  refine x_aload_n hC 0 rfl dX1_begin_5 ?_
  refine x_iload_n hC 2 rfl dX1_begin_6 ?_
  have k2 : hK σ1 this = 2 := by rw [e1]; exact k1
  refine x_putI (n0 := this) hC (ci := 1) (T := TX1) (N := 12) (C := RX1) 11 k2 rfl rfl (by decide) rfl q370 rfl (tyX1_ok 11 (by decide)) dX1_begin_7 ?_
  refine xJ.nmH (fun σ2 e2 => ?_)
  have h := h σ2 e2
  have r2 : hR σ2 = hR σ ∧ hL σ2 = hL σ := by rw [e2]; exact ⟨r1.1, r1.2⟩
  refine x_aload_n hC 0 rfl dX1_begin_10 ?_
  refine x_iload_n hC 3 rfl dX1_begin_11 ?_
  have k3 : hK σ2 this = 2 := by rw [e2]; exact k2
  refine x_callV (n0 := this) (as := [.int p3]) (rest := []) hC (ci := 1) (r := (RX1, TX1, 12)) k3 rfl (fun l hl => m1_enqueue l hl G ρ this p3 σ2 _ h) q405 q407 s3 q12 q408 ⟨rfl, hd1_enqueue⟩ (by decide) ⟨(by decide), (by decide)⟩ (by first | exact Nat.le_of_ble_eq_true rfl | (simp [rv_cat]; done) | (simp (decide := true) [rv_cat, cat_ref, cat_int]; done)) rfl dX1_begin_12 (fun E σ9 hx => False.elim hx) (fun v1 σ3 ρ1 hp1 hag1 => ?_)
  obtain ⟨e9, e8, h⟩ := hp1
  rw [e8, e9]
  refine xJ.nrm (k' := 0) (n' := 0) (pc' := 15) (st' := []) rfl rfl rfl rfl ?_
  exact x_vret hC hr dX1_begin_15 (by decide) (by decide) ⟨rfl, rfl, h⟩
/-! PlantServer.add -/
theorem dX6_add_0 : decode cX6_add 0 = .ok (.aload_n 0, 1) := by decide +kernel
theorem dX6_add_1 : decode cX6_add 1 = .ok (.iload_n 1, 1) := by decide +kernel
theorem dX6_add_2 : decode cX6_add 2 = .ok (.invokevirtual 73, 3) := by decide +kernel
theorem dX6_add_5 : decode cX6_add 5 = .ok (.astore 7, 2) := by decide +kernel
theorem dX6_add_7 : decode cX6_add 7 = .ok (.iload_n 2, 1) := by decide +kernel
theorem dX6_add_8 : decode cX6_add 8 = .ok (.invokestatic 48, 3) := by decide +kernel
theorem dX6_add_11 : decode cX6_add 11 = .ok (.iload_n 3, 1) := by decide +kernel
theorem dX6_add_12 : decode cX6_add 12 = .ok (.iconst 1, 1) := by decide +kernel
theorem dX6_add_13 : decode cX6_add 13 = .ok (.bipush 20, 2) := by decide +kernel
theorem dX6_add_15 : decode cX6_add 15 = .ok (.invokestatic 52, 3) := by decide +kernel
theorem dX6_add_18 : decode cX6_add 18 = .ok (.iload 4, 2) := by decide +kernel
theorem dX6_add_20 : decode cX6_add 20 = .ok (.iconst 1, 1) := by decide +kernel
theorem dX6_add_21 : decode cX6_add 21 = .ok (.iconst 4, 1) := by decide +kernel
theorem dX6_add_22 : decode cX6_add 22 = .ok (.invokestatic 52, 3) := by decide +kernel
theorem dX6_add_25 : decode cX6_add 25 = .ok (.iload 6, 2) := by decide +kernel
theorem dX6_add_27 : decode cX6_add 27 = .ok (.iconst 0, 1) := by decide +kernel
theorem dX6_add_28 : decode cX6_add 28 = .ok (.sipush 1000, 3) := by decide +kernel
theorem dX6_add_31 : decode cX6_add 31 = .ok (.invokestatic 52, 3) := by decide +kernel
theorem dX6_add_34 : decode cX6_add 34 = .ok (.aload_n 0, 1) := by decide +kernel
theorem dX6_add_35 : decode cX6_add 35 = .ok (.getfield 39, 3) := by decide +kernel
theorem dX6_add_38 : decode cX6_add 38 = .ok (.bipush 16, 2) := by decide +kernel
theorem dX6_add_40 : decode cX6_add 40 = .ok (.if_icmp .lt 13, 3) := by decide +kernel
theorem dX6_add_43 : decode cX6_add 43 = .ok (.new 59, 3) := by decide +kernel
theorem dX6_add_46 : decode cX6_add 46 = .ok (.dup, 1) := by decide +kernel
theorem dX6_add_47 : decode cX6_add 47 = .ok (.ldc 82, 2) := by decide +kernel
theorem dX6_add_49 : decode cX6_add 49 = .ok (.invokespecial 63, 3) := by decide +kernel
theorem dX6_add_52 : decode cX6_add 52 = .ok (.athrow, 1) := by decide +kernel
theorem dX6_add_53 : decode cX6_add 53 = .ok (.aload_n 0, 1) := by decide +kernel
theorem dX6_add_54 : decode cX6_add 54 = .ok (.getfield 39, 3) := by decide +kernel
theorem dX6_add_57 : decode cX6_add 57 = .ok (.istore 8, 2) := by decide +kernel
theorem dX6_add_59 : decode cX6_add 59 = .ok (.new 22, 3) := by decide +kernel
theorem dX6_add_62 : decode cX6_add 62 = .ok (.dup, 1) := by decide +kernel
theorem dX6_add_63 : decode cX6_add 63 = .ok (.iload 8, 2) := by decide +kernel
theorem dX6_add_65 : decode cX6_add 65 = .ok (.aload 7, 2) := by decide +kernel
theorem dX6_add_67 : decode cX6_add 67 = .ok (.iload_n 2, 1) := by decide +kernel
theorem dX6_add_68 : decode cX6_add 68 = .ok (.iload_n 3, 1) := by decide +kernel
theorem dX6_add_69 : decode cX6_add 69 = .ok (.iload 6, 2) := by decide +kernel
theorem dX6_add_71 : decode cX6_add 71 = .ok (.new 84, 3) := by decide +kernel
theorem dX6_add_74 : decode cX6_add 74 = .ok (.dup, 1) := by decide +kernel
theorem dX6_add_75 : decode cX6_add 75 = .ok (.iload 4, 2) := by decide +kernel
theorem dX6_add_77 : decode cX6_add 77 = .ok (.iload 5, 2) := by decide +kernel
theorem dX6_add_79 : decode cX6_add 79 = .ok (.invokespecial 86, 3) := by decide +kernel
theorem dX6_add_82 : decode cX6_add 82 = .ok (.invokespecial 89, 3) := by decide +kernel
theorem dX6_add_85 : decode cX6_add 85 = .ok (.astore 9, 2) := by decide +kernel
theorem dX6_add_87 : decode cX6_add 87 = .ok (.aload_n 0, 1) := by decide +kernel
theorem dX6_add_88 : decode cX6_add 88 = .ok (.getfield 24, 3) := by decide +kernel
theorem dX6_add_91 : decode cX6_add 91 = .ok (.iload 8, 2) := by decide +kernel
theorem dX6_add_93 : decode cX6_add 93 = .ok (.aload 9, 2) := by decide +kernel
theorem dX6_add_95 : decode cX6_add 95 = .ok (.aastore, 1) := by decide +kernel
theorem dX6_add_96 : decode cX6_add 96 = .ok (.aload_n 0, 1) := by decide +kernel
theorem dX6_add_97 : decode cX6_add 97 = .ok (.dup, 1) := by decide +kernel
theorem dX6_add_98 : decode cX6_add 98 = .ok (.getfield 39, 3) := by decide +kernel
theorem dX6_add_101 : decode cX6_add 101 = .ok (.iconst 1, 1) := by decide +kernel
theorem dX6_add_102 : decode cX6_add 102 = .ok (.iadd, 1) := by decide +kernel
theorem dX6_add_103 : decode cX6_add 103 = .ok (.putfield 39, 3) := by decide +kernel
theorem dX6_add_106 : decode cX6_add 106 = .ok (.aload 7, 2) := by decide +kernel
theorem dX6_add_108 : decode cX6_add 108 = .ok (.aload 9, 2) := by decide +kernel
theorem dX6_add_110 : decode cX6_add 110 = .ok (.invokevirtual 92, 3) := by decide +kernel
theorem dX6_add_113 : decode cX6_add 113 = .ok (.aload 9, 2) := by decide +kernel
theorem dX6_add_115 : decode cX6_add 115 = .ok (.aload_n 0, 1) := by decide +kernel
theorem dX6_add_116 : decode cX6_add 116 = .ok (.getfield 45, 3) := by decide +kernel
theorem dX6_add_119 : decode cX6_add 119 = .ok (.aload_n 0, 1) := by decide +kernel
theorem dX6_add_120 : decode cX6_add 120 = .ok (.getfield 31, 3) := by decide +kernel
theorem dX6_add_123 : decode cX6_add 123 = .ok (.getfield 96, 3) := by decide +kernel
theorem dX6_add_126 : decode cX6_add 126 = .ok (.aload_n 0, 1) := by decide +kernel
theorem dX6_add_127 : decode cX6_add 127 = .ok (.getfield 9, 3) := by decide +kernel
theorem dX6_add_130 : decode cX6_add 130 = .ok (.iload_n 2, 1) := by decide +kernel
theorem dX6_add_131 : decode cX6_add 131 = .ok (.iaload, 1) := by decide +kernel
theorem dX6_add_132 : decode cX6_add 132 = .ok (.invokevirtual 99, 3) := by decide +kernel
theorem dX6_add_135 : decode cX6_add 135 = .ok (.iload 8, 2) := by decide +kernel
theorem dX6_add_137 : decode cX6_add 137 = .ok (.ireturn, 1) := by decide +kernel
abbrev rm6_add : Room := { frames := 7, cells := 10, slots := 57, locals := 112 }
theorem hd6_add : yX6_add.cls ≠ "java/lang/invoke/MethodHandle" ∧ yX6_add.cls ≠ "java/lang/invoke/VarHandle" ∧ (parseMethodDescriptor yX6_add.desc).map (fun d => d.parameters.length) = some 6 := by decide +kernel
set_option maxHeartbeats 4000000 in
set_option maxRecDepth 20000 in
theorem m6_add (l : Launch) (hl : l.stackTraces = false) (G : xG) (ρ : Nm → Nat) (this : Nm) (p1 : Int32) (p2 : Int32) (p3 : Int32) (p4 : Int32) (p5 : Int32) (p6 : Int32) (σ : PH) (Q : Int32 → PH → Prop) (Xp : String → PH → Prop) (h : w6_add this p1 p2 p3 p4 p5 p6 σ Q Xp) : xMet l yX6_add (.code yX6_add cX6_add 10 (some .int)) rm6_add G ρ σ [.ref (ρ this), .int p1, .int p2, .int p3, .int p4, .int p5, .int p6] (eIA Q) Xp := by
  refine xMet.of hl (by decide +kernel) (Nat.le_of_ble_eq_true rfl) (fun X hC hr hn htab h0 => ?_)
  have hC : xC G X "PlantServer" cX6_add 10 rm6_add := hC
  unfold w6_add at h
  refine xJ.loc (L' := [(0, .ref (ρ this)), (1, .int p1), (2, .int p2), (3, .int p3), (4, .int p4), (5, .int p5), (6, .int p6)]) rfl ?_
  refine x_aload_n hC 0 rfl dX6_add_0 ?_
  refine x_iload_n hC 1 rfl dX6_add_1 ?_
  obtain ⟨k1, h⟩ := h
  refine x_callV (n0 := this) (as := [.int p1]) (rest := []) hC (ci := 6) (r := (RX6, TX6, 9)) k1 rfl (fun l hl => m6_openSubscription l hl G ρ this p1 σ _ Xp h) q296 q298 s2 q1 q299 ⟨rfl, hd6_openSubscription⟩ (by decide) ⟨(by decide), (by decide)⟩ (by first | exact Nat.le_of_ble_eq_true rfl | (simp [rv_cat]; done) | (simp (decide := true) [rv_cat, cat_ref, cat_int]; done)) rfl dX6_add_2 (fun E σ9 hx => x_out hC h0 htab (by decide) (by decide) hx) (fun v1 σ1 ρ1 hp1 hag1 => ?_)
  obtain ⟨e9, r1, e8, h⟩ := hp1
  rw [e8, e9]
  refine xJ.nrm (k' := 1) (n' := 6) (pc' := 5) (st' := [rv ρ r1]) rfl rfl rfl rfl ?_
  refine x_astoreQ (o := r1) (L' := [(7, rv ρ r1), (0, .ref (ρ this)), (1, .int p1), (2, .int p2), (3, .int p3), (4, .int p4), (5, .int p5), (6, .int p6)]) hC dX6_add_5 (by decide) (by first | rfl | simp (decide := true) [rv_cat, cat_ref, cat_int]) ?_
  refine x_iload_n hC 3 rfl dX6_add_7 ?_
  refine x_callS (as := [.int p2]) (rest := []) hC (fun l hl => m6_checkNode l hl G ρ p2 σ1 _ Xp h) q95 q96 q1 q97 hd6_checkNode (by decide) ⟨(by decide), (by decide)⟩ (by first | exact Nat.le_of_ble_eq_true rfl | (simp [rv_cat]; done) | (simp (decide := true) [rv_cat, cat_ref, cat_int]; done)) rfl dX6_add_8 (fun E σ9 hx => x_out hC h0 htab (by decide) (by decide) hx) (fun v2 σ2 ρ2 hp2 hag2 => ?_)
  obtain ⟨e9, e8, h⟩ := hp2
  rw [e8, e9]
  refine xJ.nrm (k' := 2) (n' := 12) (pc' := 11) (st' := []) rfl rfl rfl rfl ?_
  refine x_iload_n hC 4 rfl dX6_add_11 ?_
  refine x_iconst (v := 1) hC dX6_add_12 (by decide) ?_
  refine x_bipush (v := 20) hC dX6_add_13 (by decide) ?_
  refine x_callS (as := [.int p3, .int 1, .int 20]) (rest := []) hC (fun l hl => m6_checkRange l hl G ρ p3 1 20 σ2 _ Xp h) q167 q168 q1 q169 hd6_checkRange (by decide) ⟨(by decide), (by decide)⟩ (by first | exact Nat.le_of_ble_eq_true rfl | (simp [rv_cat]; done) | (simp (decide := true) [rv_cat, cat_ref, cat_int]; done)) rfl dX6_add_15 (fun E σ9 hx => x_out hC h0 htab (by decide) (by decide) hx) (fun v3 σ3 ρ3 hp3 hag3 => ?_)
  obtain ⟨e9, e8, h⟩ := hp3
  rw [e8, e9]
  refine xJ.nrm (k' := 3) (n' := 18) (pc' := 18) (st' := []) rfl rfl rfl rfl ?_
  refine x_iload hC 5 rfl dX6_add_18 ?_
  refine x_iconst (v := 1) hC dX6_add_20 (by decide) ?_
  refine x_iconst (v := 4) hC dX6_add_21 (by decide) ?_
  refine x_callS (as := [.int p4, .int 1, .int 4]) (rest := []) hC (fun l hl => m6_checkRange l hl G ρ p4 1 4 σ3 _ Xp h) q167 q168 q1 q169 hd6_checkRange (by decide) ⟨(by decide), (by decide)⟩ (by first | exact Nat.le_of_ble_eq_true rfl | (simp [rv_cat]; done) | (simp (decide := true) [rv_cat, cat_ref, cat_int]; done)) rfl dX6_add_22 (fun E σ9 hx => x_out hC h0 htab (by decide) (by decide) hx) (fun v4 σ4 ρ4 hp4 hag4 => ?_)
  obtain ⟨e9, e8, h⟩ := hp4
  rw [e8, e9]
  refine xJ.nrm (k' := 4) (n' := 24) (pc' := 25) (st' := []) rfl rfl rfl rfl ?_
  refine x_iload hC 7 rfl dX6_add_25 ?_
  refine x_iconst (v := 0) hC dX6_add_27 (by decide) ?_
  refine x_sipush (v := 1000) hC dX6_add_28 (by decide) ?_
  refine x_callS (as := [.int p6, .int 0, .int 1000]) (rest := []) hC (fun l hl => m6_checkRange l hl G ρ p6 0 1000 σ4 _ Xp h) q167 q168 q1 q169 hd6_checkRange (by decide) ⟨(by decide), (by decide)⟩ (by first | exact Nat.le_of_ble_eq_true rfl | (simp [rv_cat]; done) | (simp (decide := true) [rv_cat, cat_ref, cat_int]; done)) rfl dX6_add_31 (fun E σ9 hx => x_out hC h0 htab (by decide) (by decide) hx) (fun v5 σ5 ρ5 hp5 hag5 => ?_)
  obtain ⟨e9, e8, h⟩ := hp5
  rw [e8, e9]
  refine xJ.nrm (k' := 5) (n' := 30) (pc' := 34) (st' := []) rfl rfl rfl rfl ?_
  refine x_aload_n hC 1 rfl dX6_add_34 ?_
  have k2 : hK σ1 this = 7 := (hag1 this (by rw [k1]; decide)).1.trans k1
  have k3 : hK σ2 this = 7 := (hag2 this (by rw [k2]; decide)).1.trans k2
  have k4 : hK σ3 this = 7 := (hag3 this (by rw [k3]; decide)).1.trans k3
  have k5 : hK σ4 this = 7 := (hag4 this (by rw [k4]; decide)).1.trans k4
  have k6 : hK σ5 this = 7 := (hag5 this (by rw [k5]; decide)).1.trans k5
  refine x_getI (n0 := this) hC (ci := 6) (T := TX6) (N := 9) (C := RX6) 6 k6 rfl rfl (by decide) rfl q56 dX6_add_35 ?_
  refine x_bipush (v := 16) hC dX6_add_38 (by decide) ?_
  refine x_icmp_lt (tgt := 53) hC dX6_add_40 (by decide) (fun c1 => ?_) (fun c1 => ?_)
  · have h := h.1 c1
    refine x_aload_n hC 1 rfl dX6_add_53 ?_
    refine x_getI (n0 := this) hC (ci := 6) (T := TX6) (N := 9) (C := RX6) 6 k6 rfl rfl (by decide) rfl q56 dX6_add_54 ?_
    refine x_istore (L' := [(8, .int (hI σ5 this 6)), (7, rv ρ r1), (0, .ref (ρ this)), (1, .int p1), (2, .int p2), (3, .int p3), (4, .int p4), (5, .int p5), (6, .int p6)]) hC dX6_add_57 (by decide) (by first | rfl | simp (decide := true) [rv_cat, cat_ref, cat_int]) ?_
    obtain ⟨n1, hz1, h⟩ := h
    obtain ⟨m1, hm1, h⟩ := h
    rw [show rv ρ r1 = Value.ref (ρ m1) from by rw [hm1]; rfl]
    obtain ⟨z1, h⟩ := h
    refine x_new (ci := 1) (T := TX1) (N := 12) (C := RX1) hC n1 hz1 rfl xdf1 q27 q310 q12 (by decide) (by decide) dX6_add_59 (fun ρ6 hρ1 => ?_)
    refine xJ.sub (L' := [(8, .int (hI σ5 this 6)), (7, .ref (ρ m1)), (0, .ref (ρ this)), (2, .int p2), (3, .int p3), (4, .int p4), (5, .int p5), (6, .int p6)]) [0, 1, 2, 4, 5, 6, 7, 8] rfl ?_
    rw [← hρ1 m1 z1, ← hρ1 this (by rw [k6]; decide)]
    refine xJ.nmH (fun σ6 e1 => ?_)
    have h := h σ6 e1
    have k7 : hK σ6 n1 = 2 := by rw [e1]; exact sN_c
    refine x_dup hC (by first | rfl | exact rv_cat) dX6_add_62 ?_
    refine x_iload hC 0 rfl dX6_add_63 ?_
    refine x_aload hC 1 rfl dX6_add_65 ?_
    refine x_iload_n hC 3 rfl dX6_add_67 ?_
    refine x_iload_n hC 4 rfl dX6_add_68 ?_
    refine x_iload hC 7 rfl dX6_add_69 ?_
    obtain ⟨n2, hz2, h⟩ := h
    obtain ⟨z2, h⟩ := h
    have k8 : hK σ6 this = 7 := by rw [e1]; exact sN_k hz1 k6 (by decide)
    refine x_new (ci := 3) (T := TX3) (N := 5) (C := RX3) hC n2 hz2 rfl xdf3 q311 q312 q13 (by decide) (by decide) dX6_add_71 (fun ρ7 hρ2 => ?_)
    refine xJ.sub (L' := [(8, .int (hI σ5 this 6)), (7, .ref (ρ6 m1)), (0, .ref (ρ6 this)), (2, .int p2), (4, .int p4), (5, .int p5)]) [0, 1, 2, 3, 5, 6] rfl ?_
    rw [← hρ2 m1 z2, ← hρ2 this (by rw [k8]; decide), ← hρ2 n1 (by rw [k7]; decide)]
    refine xJ.nmH (fun σ7 e2 => ?_)
    have h := h σ7 e2
    have k9 : hK σ7 n2 = 4 := by rw [e2]; exact sN_c
    refine x_dup hC (by first | rfl | exact rv_cat) dX6_add_74 ?_
    refine x_iload hC 4 rfl dX6_add_75 ?_
    refine x_iload hC 5 rfl dX6_add_77 ?_
    obtain ⟨z3, h⟩ := h
    have k10 : hK σ7 this = 7 := by rw [e2]; exact sN_k hz2 k8 (by decide)
    have k11 : hK σ7 n1 = 2 := by rw [e2]; exact sN_k hz2 k7 (by decide)
    refine xJ.sub (L' := [(8, .int (hI σ5 this 6)), (7, .ref (ρ7 m1)), (0, .ref (ρ7 this)), (2, .int p2)]) [0, 1, 2, 3] rfl ?_
    refine x_callI (as := [.int p4, .int p5]) (rest := [.ref (ρ7 n2), .int p6, .int p3, .int p2, .ref (ρ7 m1), .int (hI σ5 this 6), .ref (ρ7 n1), .ref (ρ7 n1)]) hC (fun l hl => m3_init l hl G ρ7 n2 p4 p5 σ7 _ h) q313 q314 q13 q315 rfl hd3_init (by decide) ⟨(by decide), (by decide)⟩ (by first | exact Nat.le_of_ble_eq_true rfl | (simp [rv_cat]; done) | (simp (decide := true) [rv_cat, cat_ref, cat_int]; done)) rfl dX6_add_79 (fun E σ9 hx => False.elim hx) (fun v6 σ8 ρ8 hp6 hag6 => ?_)
    obtain ⟨e8, h⟩ := hp6
    rw [e8]
    rw [← (hag6 m1 z3).2, ← (hag6 this (by rw [k10]; decide)).2, ← (hag6 n1 (by rw [k11]; decide)).2, ← (hag6 n2 (by rw [k9]; decide)).2]
    refine xJ.nrm (k' := 9) (n' := 55) (pc' := 82) (st' := [.ref (ρ8 n2), .int p6, .int p3, .int p2, .ref (ρ8 m1), .int (hI σ5 this 6), .ref (ρ8 n1), .ref (ρ8 n1)]) rfl rfl rfl rfl ?_
    obtain ⟨z4, h⟩ := h
    have k12 : hK σ8 this = 7 := (hag6 this (by rw [k10]; decide)).1.trans k10
    have k13 : hK σ8 n1 = 2 := (hag6 n1 (by rw [k11]; decide)).1.trans k11
    refine x_callI (as := [.int (hI σ5 this 6), .ref (ρ8 m1), .int p2, .int p3, .int p6, .ref (ρ8 n2)]) (rest := [.ref (ρ8 n1)]) hC (fun l hl => m1_init l hl G ρ8 n1 (hI σ5 this 6) m1 p2 p3 p6 n2 σ8 _ h) q339 q340 q12 q341 rfl hd1_init (by decide) ⟨(by decide), (by decide)⟩ (by first | exact Nat.le_of_ble_eq_true rfl | (simp [rv_cat]; done) | (simp (decide := true) [rv_cat, cat_ref, cat_int]; done)) rfl dX6_add_82 (fun E σ9 hx => False.elim hx) (fun v7 σ9 ρ9 hp7 hag7 => ?_)
    obtain ⟨e8, h⟩ := hp7
    rw [e8]
    rw [← (hag7 m1 z4).2, ← (hag7 this (by rw [k12]; decide)).2, ← (hag7 n1 (by rw [k13]; decide)).2]
    refine xJ.nrm (k' := 10) (n' := 57) (pc' := 85) (st' := [.ref (ρ9 n1)]) rfl rfl rfl rfl ?_
    refine x_astore (L' := [(9, .ref (ρ9 n1)), (8, .int (hI σ5 this 6)), (7, .ref (ρ9 m1)), (0, .ref (ρ9 this)), (2, .int p2)]) hC dX6_add_85 (by decide) (by first | rfl | simp (decide := true) [rv_cat, cat_ref, cat_int]) ?_
    refine x_aload_n hC 3 rfl dX6_add_87 ?_
    have k14 : hK σ9 this = 7 := (hag7 this (by rw [k12]; decide)).1.trans k12
    refine x_getR (n0 := this) hC (ci := 6) (T := TX6) (N := 9) (C := RX6) 3 k14 rfl rfl (by decide) rfl q53 dX6_add_88 ?_
    refine x_iload hC 1 rfl dX6_add_91 ?_
    refine x_aload hC 0 rfl dX6_add_93 ?_
    obtain ⟨m2, hm2, h⟩ := h
    rw [show rv ρ9 (hR σ9 this 3) = Value.ref (ρ9 m2) from by rw [hm2]; rfl]
    obtain ⟨k15, h⟩ := h
    obtain ⟨v8, h⟩ := h
    have k16 : hK σ9 n1 = 2 := (hag7 n1 (by rw [k13]; decide)).1.trans k13
    refine x_aast11 (a := m2) (o := some n1) hC (fun m hm => by cases hm; exact k16) k15 v8 dX6_add_95 ?_
    refine xJ.nmH (fun σ10 e3 => ?_)
    have h := h σ10 e3
    have r2 : hR σ10 = hR σ10 ∧ hL σ10 = hL σ9 := by rw [e3]; exact ⟨rfl, rfl⟩
    refine x_aload_n hC 3 rfl dX6_add_96 ?_
    refine x_dup hC (by first | rfl | exact rv_cat) dX6_add_97 ?_
    have k17 : hK σ10 this = 7 := by rw [e3]; exact k14
    refine x_getI (n0 := this) hC (ci := 6) (T := TX6) (N := 9) (C := RX6) 6 k17 rfl rfl (by decide) rfl q56 dX6_add_98 ?_
    refine x_iconst (v := 1) hC dX6_add_101 (by decide) ?_
    refine x_iadd hC dX6_add_102 ?_
    refine x_putI (n0 := this) hC (ci := 6) (T := TX6) (N := 9) (C := RX6) 6 k17 rfl rfl (by decide) rfl q56 rfl (tyX6_ok 6 (by decide)) dX6_add_103 ?_
    refine xJ.nmH (fun σ11 e4 => ?_)
    have h := h σ11 e4
    have r3 : hR σ11 = hR σ10 ∧ hL σ11 = hL σ9 := by rw [e4]; exact ⟨r2.1, r2.2⟩
    refine x_aload hC 2 rfl dX6_add_106 ?_
    refine x_aload hC 0 rfl dX6_add_108 ?_
    obtain ⟨k18, h⟩ := h
    refine x_callV (n0 := m1) (as := [.ref (ρ9 n1)]) (rest := []) hC (ci := 4) (r := (RX4, TX4, 14)) k18 rfl (fun l hl => m4_take l hl G ρ9 m1 n1 σ11 _ h) q397 q398 q399 q10 q400 ⟨rfl, hd4_take⟩ (by decide) ⟨(by decide), (by decide)⟩ (by first | exact Nat.le_of_ble_eq_true rfl | (simp [rv_cat]; done) | (simp (decide := true) [rv_cat, cat_ref, cat_int]; done)) rfl dX6_add_110 (fun E σ9 hx => False.elim hx) (fun v9 σ12 ρ10 hp8 hag8 => ?_)
    obtain ⟨e9, e8, h⟩ := hp8
    rw [e8, e9]
    refine xJ.nrm (k' := 10) (n' := 57) (pc' := 113) (st' := []) rfl rfl rfl rfl ?_
    refine x_aload hC 0 rfl dX6_add_113 ?_
    refine x_aload_n hC 3 rfl dX6_add_115 ?_
    have k19 : hK σ11 this = 7 := by rw [e4]; exact k17
    have k20 : hK σ12 this = 7 := (hag8 this (by rw [k19]; decide)).1.trans k19
    refine x_getI (n0 := this) hC (ci := 6) (T := TX6) (N := 9) (C := RX6) 8 k20 rfl rfl (by decide) rfl q58 dX6_add_116 ?_
    refine x_aload_n hC 3 rfl dX6_add_119 ?_
    refine x_getR (n0 := this) hC (ci := 6) (T := TX6) (N := 9) (C := RX6) 4 k20 rfl rfl (by decide) rfl q54 dX6_add_120 ?_
    obtain ⟨m3, hm3, h⟩ := h
    rw [show rv ρ9 (hR σ12 this 4) = Value.ref (ρ9 m3) from by rw [hm3]; rfl]
    obtain ⟨k21, h⟩ := h
    refine x_getI (n0 := m3) hC (ci := 0) (T := TX0) (N := 4) (C := RX0) 3 k21 rfl rfl (by decide) rfl q39 dX6_add_123 ?_
    refine x_aload_n hC 3 rfl dX6_add_126 ?_
    refine x_getR (n0 := this) hC (ci := 6) (T := TX6) (N := 9) (C := RX6) 0 k20 rfl rfl (by decide) rfl q50 dX6_add_127 ?_
    refine x_iload_n hC 4 rfl dX6_add_130 ?_
    obtain ⟨m4, hm4, h⟩ := h
    rw [show rv ρ9 (hR σ12 this 0) = Value.ref (ρ9 m4) from by rw [hm4]; rfl]
    obtain ⟨k22, h⟩ := h
    obtain ⟨v10, h⟩ := h
    refine x_iald (a := m4) hC k22 v10 dX6_add_131 ?_
    have k23 : hK σ10 n1 = 2 := by rw [e3]; exact k16
    have k24 : hK σ11 n1 = 2 := by rw [e4]; exact k23
    have k25 : hK σ12 n1 = 2 := (hag8 n1 (by rw [k24]; decide)).1.trans k24
    refine x_callV (n0 := n1) (as := [.int (hI σ12 this 8), .int (hI σ12 m3 3), .int (hI σ12 m4 (Int32.toNatClampNeg p2))]) (rest := []) hC (ci := 1) (r := (RX1, TX1, 12)) k25 rfl (fun l hl => m1_begin l hl G ρ9 n1 (hI σ12 this 8) (hI σ12 m3 3) (hI σ12 m4 (Int32.toNatClampNeg p2)) σ12 _ h) q401 q402 q403 q12 q404 ⟨rfl, hd1_begin⟩ (by decide) ⟨(by decide), (by decide)⟩ (by first | exact Nat.le_of_ble_eq_true rfl | (simp [rv_cat]; done) | (simp (decide := true) [rv_cat, cat_ref, cat_int]; done)) rfl dX6_add_132 (fun E σ9 hx => False.elim hx) (fun v11 σ13 ρ11 hp9 hag9 => ?_)
    obtain ⟨e9, e8, h⟩ := hp9
    rw [e8, e9]
    refine xJ.nrm (k' := 10) (n' := 57) (pc' := 135) (st' := []) rfl rfl rfl rfl ?_
    refine x_iload hC 1 rfl dX6_add_135 ?_
    exact x_iret hC hr dX6_add_137 (by decide) (by decide) ⟨_, rfl, h⟩
  · have h := h.2 c1
    exact x_throw (E := xIS) (text := "there were 16 items") (is := 82) hC h0 htab (by decide +kernel) (by decide +kernel) q198 q9 xhat_xIS xgood_xIS dX6_add_43 dX6_add_46 dX6_add_47 dX6_add_49 dX6_add_52 (by decide) (by first | exact Nat.le_of_ble_eq_true rfl | (simp [rv_cat]; done) | (simp (decide := true) [rv_cat, cat_ref, cat_int]; done)) (by decide) (by decide) h
/-! PlantServerLaw.add -/
theorem dL_add_0 : decode cL_add 0 = .ok (.aload 7, 2) := by decide +kernel
theorem dL_add_2 : decode cL_add 2 = .ok (.iconst 0, 1) := by decide +kernel
theorem dL_add_3 : decode cL_add 3 = .ok (.aload_n 0, 1) := by decide +kernel
theorem dL_add_4 : decode cL_add 4 = .ok (.iload_n 1, 1) := by decide +kernel
theorem dL_add_5 : decode cL_add 5 = .ok (.iload_n 2, 1) := by decide +kernel
theorem dL_add_6 : decode cL_add 6 = .ok (.iload_n 3, 1) := by decide +kernel
theorem dL_add_7 : decode cL_add 7 = .ok (.iload 4, 2) := by decide +kernel
theorem dL_add_9 : decode cL_add 9 = .ok (.iload 5, 2) := by decide +kernel
theorem dL_add_11 : decode cL_add 11 = .ok (.iload 6, 2) := by decide +kernel
theorem dL_add_13 : decode cL_add 13 = .ok (.invokevirtual 27, 3) := by decide +kernel
theorem dL_add_16 : decode cL_add 16 = .ok (.i2l, 1) := by decide +kernel
theorem dL_add_17 : decode cL_add 17 = .ok (.lastore, 1) := by decide +kernel
theorem dL_add_18 : decode cL_add 18 = .ok (.goto 15, 3) := by decide +kernel
theorem dL_add_21 : decode cL_add 21 = .ok (.astore 8, 2) := by decide +kernel
theorem dL_add_23 : decode cL_add 23 = .ok (.iconst 1, 1) := by decide +kernel
theorem dL_add_24 : decode cL_add 24 = .ok (.ireturn, 1) := by decide +kernel
theorem dL_add_25 : decode cL_add 25 = .ok (.astore 8, 2) := by decide +kernel
theorem dL_add_27 : decode cL_add 27 = .ok (.iconst 2, 1) := by decide +kernel
theorem dL_add_28 : decode cL_add 28 = .ok (.ireturn, 1) := by decide +kernel
theorem dL_add_29 : decode cL_add 29 = .ok (.astore 8, 2) := by decide +kernel
theorem dL_add_31 : decode cL_add 31 = .ok (.iconst 3, 1) := by decide +kernel
theorem dL_add_32 : decode cL_add 32 = .ok (.ireturn, 1) := by decide +kernel
theorem dL_add_33 : decode cL_add 33 = .ok (.iconst 0, 1) := by decide +kernel
theorem dL_add_34 : decode cL_add 34 = .ok (.ireturn, 1) := by decide +kernel
abbrev rmL_add : Room := { frames := 8, cells := 10, slots := 57, locals := 141 }
theorem hdL_add : yL_add.cls ≠ "java/lang/invoke/MethodHandle" ∧ yL_add.cls ≠ "java/lang/invoke/VarHandle" ∧ (parseMethodDescriptor yL_add.desc).map (fun d => d.parameters.length) = some 8 := by decide +kernel
set_option maxHeartbeats 4000000 in
set_option maxRecDepth 20000 in
theorem mL_add (l : Launch) (hl : l.stackTraces = false) (G : xG) (ρ : Nm → Nat) (a1 : Nm) (p2 : Int32) (p3 : Int32) (p4 : Int32) (p5 : Int32) (p6 : Int32) (p7 : Int32) (a8 : Nm) (σ : PH) (Q : Int32 → PH → Prop) (h : wL_add a1 p2 p3 p4 p5 p6 p7 a8 σ Q) : xMet l yL_add (.codeWith yL_add cL_add 9 (some .int) [(0, 18, 21, 13), (0, 18, 25, 15), (0, 18, 29, 21)]) rmL_add G ρ σ [.ref (ρ a1), .int p2, .int p3, .int p4, .int p5, .int p6, .int p7, .ref (ρ a8)] (eIA Q) xNo := by
  refine xMet.ofW hl (by decide +kernel) (Nat.le_of_ble_eq_true rfl) (fun X hC hr hn htab h0 => ?_)
  have hC : xC G X "PlantServerLaw" cL_add 9 rmL_add := hC
  unfold wL_add at h
  refine xJ.loc (L' := [(0, .ref (ρ a1)), (1, .int p2), (2, .int p3), (3, .int p4), (4, .int p5), (5, .int p6), (6, .int p7), (7, .ref (ρ a8))]) rfl ?_
  refine x_aload hC 7 rfl dL_add_0 ?_
  refine x_iconst (v := 0) hC dL_add_2 (by decide) ?_
  refine x_aload_n hC 0 rfl dL_add_3 ?_
  refine x_iload_n hC 1 rfl dL_add_4 ?_
  refine x_iload_n hC 2 rfl dL_add_5 ?_
  refine x_iload_n hC 3 rfl dL_add_6 ?_
  refine x_iload hC 4 rfl dL_add_7 ?_
  refine x_iload hC 5 rfl dL_add_9 ?_
  refine x_iload hC 6 rfl dL_add_11 ?_
  obtain ⟨k1, h⟩ := h
  obtain ⟨z1, h⟩ := h
  refine xJ.sub (L' := []) [] rfl ?_
  refine x_callV (n0 := a1) (as := [.int p2, .int p3, .int p4, .int p5, .int p6, .int p7]) (rest := [.int 0, .ref (ρ a8)]) hC (ci := 6) (r := (RX6, TX6, 9)) k1 rfl (fun l hl => m6_add l hl G ρ a1 p2 p3 p4 p5 p6 p7 σ _ _ h) q305 q306 q307 q1 q308 ⟨rfl, hd6_add⟩ (by decide) ⟨(by decide), (by decide)⟩ (by first | exact Nat.le_of_ble_eq_true rfl | (simp [rv_cat]; done) | (simp (decide := true) [rv_cat, cat_ref, cat_int]; done)) rfl dL_add_13 (fun E σ2 hx => ?_) (fun v1 σ1 ρ1 hp1 hag1 => ?_)
  · have hE9 := hx.2.2.2
    rcases hE9 with he | he | he
    · have h := hx.1 he
      subst he
      refine x_catch hC [] [(0, 18, 25, 15), (0, 18, 29, 21)] (0, 18, 21, 13) htab (by intro z hz; simp at hz) (by decide) (by decide) q89 xcast_xIO (fun qx1 => ?_)
      refine xJ.nrm (k' := 10) (n' := 57) (pc' := 21) (st' := [.ref qx1]) rfl rfl rfl rfl ?_
      refine x_astore (L' := [(8, .ref qx1)]) hC dL_add_21 (by decide) (by first | rfl | simp (decide := true) [rv_cat, cat_ref, cat_int]) ?_
      refine x_iconst (v := 1) hC dL_add_23 (by decide) ?_
      exact x_iret hC hr dL_add_24 (by decide) (by decide) ⟨_, rfl, h⟩
    · have h := hx.2.1 he
      subst he
      refine x_catch hC [(0, 18, 21, 13)] [(0, 18, 29, 21)] (0, 18, 25, 15) htab (xpass1 (E := xIA) q89 (by decide) (by decide +kernel)) (by decide) (by decide) q90 xcast_xIA (fun qx2 => ?_)
      refine xJ.nrm (k' := 10) (n' := 57) (pc' := 25) (st' := [.ref qx2]) rfl rfl rfl rfl ?_
      refine x_astore (L' := [(8, .ref qx2)]) hC dL_add_25 (by decide) (by first | rfl | simp (decide := true) [rv_cat, cat_ref, cat_int]) ?_
      refine x_iconst (v := 2) hC dL_add_27 (by decide) ?_
      exact x_iret hC hr dL_add_28 (by decide) (by decide) ⟨_, rfl, h⟩
    · have h := hx.2.2.1 he
      subst he
      refine x_catch hC [(0, 18, 21, 13), (0, 18, 25, 15)] [] (0, 18, 29, 21) htab (xpass2 (E := xIS) q89 (by decide) (by decide +kernel) q90 (by decide)) (by decide) (by decide) q193 xcast_xIS (fun qx3 => ?_)
      refine xJ.nrm (k' := 10) (n' := 57) (pc' := 29) (st' := [.ref qx3]) rfl rfl rfl rfl ?_
      refine x_astore (L' := [(8, .ref qx3)]) hC dL_add_29 (by decide) (by first | rfl | simp (decide := true) [rv_cat, cat_ref, cat_int]) ?_
      refine x_iconst (v := 3) hC dL_add_31 (by decide) ?_
      exact x_iret hC hr dL_add_32 (by decide) (by decide) ⟨_, rfl, h⟩
  · obtain ⟨r1, e8, h⟩ := hp1
    rw [e8]
    rw [← (hag1 a8 z1).2]
    refine xJ.nrm (k' := 10) (n' := 57) (pc' := 16) (st' := [.int r1, .int 0, .ref (ρ1 a8)]) rfl rfl rfl rfl ?_
    refine x_i2l hC dL_add_16 ?_
    obtain ⟨k2, h⟩ := h
    obtain ⟨v2, h⟩ := h
    refine x_last (a := a8) hC k2 v2 dL_add_17 ?_
    refine xJ.nmH (fun σ3 e1 => ?_)
    have h := h σ3 e1
    have r2 : hR σ3 = hR σ1 ∧ hL σ3 = hL σ1 := by rw [e1]; exact ⟨rfl, rfl⟩
    refine x_goto (tgt := 33) hC dL_add_18 (by decide) ?_
    refine x_iconst (v := 0) hC dL_add_33 (by decide) ?_
    exact x_iret hC hr dL_add_34 (by decide) (by decide) ⟨_, rfl, h⟩
/-! PlantServerModel.puts -/
theorem dX7_puts_0 : decode cX7_puts 0 = .ok (.aload_n 0, 1) := by decide +kernel
theorem dX7_puts_1 : decode cX7_puts 1 = .ok (.getfield 83, 3) := by decide +kernel
theorem dX7_puts_4 : decode cX7_puts 4 = .ok (.iload_n 1, 1) := by decide +kernel
theorem dX7_puts_5 : decode cX7_puts 5 = .ok (.iload_n 2, 1) := by decide +kernel
theorem dX7_puts_6 : decode cX7_puts 6 = .ok (.iastore, 1) := by decide +kernel
theorem dX7_puts_7 : decode cX7_puts 7 = .ok (.aload_n 0, 1) := by decide +kernel
theorem dX7_puts_8 : decode cX7_puts 8 = .ok (.getfield 86, 3) := by decide +kernel
theorem dX7_puts_11 : decode cX7_puts 11 = .ok (.iload_n 1, 1) := by decide +kernel
theorem dX7_puts_12 : decode cX7_puts 12 = .ok (.iload_n 3, 1) := by decide +kernel
theorem dX7_puts_13 : decode cX7_puts 13 = .ok (.bastore, 1) := by decide +kernel
theorem dX7_puts_14 : decode cX7_puts 14 = .ok (.return_, 1) := by decide +kernel
abbrev rm7_puts : Room := { frames := 0, cells := 0, slots := 0, locals := 0 }
theorem hd7_puts : yX7_puts.cls ≠ "java/lang/invoke/MethodHandle" ∧ yX7_puts.cls ≠ "java/lang/invoke/VarHandle" ∧ (parseMethodDescriptor yX7_puts.desc).map (fun d => d.parameters.length) = some 3 := by decide +kernel
set_option maxHeartbeats 4000000 in
set_option maxRecDepth 20000 in
theorem m7_puts (l : Launch) (hl : l.stackTraces = false) (G : xG) (ρ : Nm → Nat) (this : Nm) (p1 : Int32) (p2 : Int32) (p3 : Int32) (σ : PH) (Q : PH → Prop) (h : w7_puts this p1 p2 p3 σ Q) : xMet l yX7_puts (.code yX7_puts cX7_puts 4 none) rm7_puts G ρ σ [.ref (ρ this), .int p1, .int p2, .int p3] (eV ρ Q) xNo := by
  refine xMet.of hl (by decide +kernel) (Nat.le_of_ble_eq_true rfl) (fun X hC hr hn htab h0 => ?_)
  have hC : xC G X "PlantServerModel" cX7_puts 4 rm7_puts := hC
  unfold w7_puts at h
  refine xJ.loc (L' := [(0, .ref (ρ this)), (1, .int p1), (2, .int p2), (3, .int p3)]) rfl ?_
  refine x_aload_n hC 0 rfl dX7_puts_0 ?_
  obtain ⟨k1, h⟩ := h
  refine x_getR (n0 := this) hC (ci := 7) (T := TX7) (N := 36) (C := RX7) 28 k1 rfl rfl (by decide) rfl q717 dX7_puts_1 ?_
  refine x_iload_n hC 1 rfl dX7_puts_4 ?_
  refine x_iload_n hC 2 rfl dX7_puts_5 ?_
  obtain ⟨m1, hm1, h⟩ := h
  rw [show rv ρ (hR σ this 28) = Value.ref (ρ m1) from by rw [hm1]; rfl]
  obtain ⟨k2, h⟩ := h
  obtain ⟨v1, h⟩ := h
  refine x_iast (a := m1) hC k2 v1 dX7_puts_6 ?_
  refine xJ.nmH (fun σ1 e1 => ?_)
  have h := h σ1 e1
  have r1 : hR σ1 = hR σ ∧ hL σ1 = hL σ := by rw [e1]; exact ⟨rfl, rfl⟩
  refine x_aload_n hC 0 rfl dX7_puts_7 ?_
  have k3 : hK σ1 this = 8 := by rw [e1]; exact k1
  refine x_getR (n0 := this) hC (ci := 7) (T := TX7) (N := 36) (C := RX7) 29 k3 rfl rfl (by decide) rfl q718 dX7_puts_8 ?_
  rw [r1.1]
  refine x_iload_n hC 1 rfl dX7_puts_11 ?_
  refine x_iload_n hC 3 rfl dX7_puts_12 ?_
  obtain ⟨m2, hm2, h⟩ := h
  rw [show rv ρ (hR σ this 29) = Value.ref (ρ m2) from by rw [hm2]; rfl]
  obtain ⟨k4, h⟩ := h
  obtain ⟨v2, h⟩ := h
  obtain ⟨zh1, h⟩ := h
  refine x_zast (a := m2) hC zh1 k4 (by rw [r1.2]; exact v2) dX7_puts_13 ?_
  refine xJ.nmH (fun σ2 e2 => ?_)
  have h := h σ2 e2
  have r2 : hR σ2 = hR σ ∧ hL σ2 = hL σ := by rw [e2]; exact ⟨r1.1, r1.2⟩
  exact x_vret hC hr dX7_puts_14 (by decide) (by decide) ⟨rfl, rfl, h⟩
/-! PlantServerModel.takesFirst -/
theorem dX7_takesFirst_0 : decode cX7_takesFirst 0 = .ok (.iconst 4, 1) := by decide +kernel
theorem dX7_takesFirst_1 : decode cX7_takesFirst 1 = .ok (.iload_n 1, 1) := by decide +kernel
theorem dX7_takesFirst_2 : decode cX7_takesFirst 2 = .ok (.imul, 1) := by decide +kernel
theorem dX7_takesFirst_3 : decode cX7_takesFirst 3 = .ok (.iconst 1, 1) := by decide +kernel
theorem dX7_takesFirst_4 : decode cX7_takesFirst 4 = .ok (.iadd, 1) := by decide +kernel
theorem dX7_takesFirst_5 : decode cX7_takesFirst 5 = .ok (.istore_n 2, 1) := by decide +kernel
theorem dX7_takesFirst_6 : decode cX7_takesFirst 6 = .ok (.iload_n 2, 1) := by decide +kernel
theorem dX7_takesFirst_7 : decode cX7_takesFirst 7 = .ok (.iconst 4, 1) := by decide +kernel
theorem dX7_takesFirst_8 : decode cX7_takesFirst 8 = .ok (.iload_n 1, 1) := by decide +kernel
theorem dX7_takesFirst_9 : decode cX7_takesFirst 9 = .ok (.imul, 1) := by decide +kernel
theorem dX7_takesFirst_10 : decode cX7_takesFirst 10 = .ok (.aload_n 0, 1) := by decide +kernel
theorem dX7_takesFirst_11 : decode cX7_takesFirst 11 = .ok (.getfield 80, 3) := by decide +kernel
theorem dX7_takesFirst_14 : decode cX7_takesFirst 14 = .ok (.iload_n 1, 1) := by decide +kernel
theorem dX7_takesFirst_15 : decode cX7_takesFirst 15 = .ok (.iaload, 1) := by decide +kernel
theorem dX7_takesFirst_16 : decode cX7_takesFirst 16 = .ok (.iadd, 1) := by decide +kernel
theorem dX7_takesFirst_17 : decode cX7_takesFirst 17 = .ok (.if_icmp .ge 28, 3) := by decide +kernel
theorem dX7_takesFirst_20 : decode cX7_takesFirst 20 = .ok (.aload_n 0, 1) := by decide +kernel
theorem dX7_takesFirst_21 : decode cX7_takesFirst 21 = .ok (.iload_n 2, 1) := by decide +kernel
theorem dX7_takesFirst_22 : decode cX7_takesFirst 22 = .ok (.iconst 1, 1) := by decide +kernel
theorem dX7_takesFirst_23 : decode cX7_takesFirst 23 = .ok (.isub, 1) := by decide +kernel
theorem dX7_takesFirst_24 : decode cX7_takesFirst 24 = .ok (.aload_n 0, 1) := by decide +kernel
theorem dX7_takesFirst_25 : decode cX7_takesFirst 25 = .ok (.getfield 83, 3) := by decide +kernel
theorem dX7_takesFirst_28 : decode cX7_takesFirst 28 = .ok (.iload_n 2, 1) := by decide +kernel
theorem dX7_takesFirst_29 : decode cX7_takesFirst 29 = .ok (.iaload, 1) := by decide +kernel
theorem dX7_takesFirst_30 : decode cX7_takesFirst 30 = .ok (.aload_n 0, 1) := by decide +kernel
theorem dX7_takesFirst_31 : decode cX7_takesFirst 31 = .ok (.getfield 86, 3) := by decide +kernel
theorem dX7_takesFirst_34 : decode cX7_takesFirst 34 = .ok (.iload_n 2, 1) := by decide +kernel
theorem dX7_takesFirst_35 : decode cX7_takesFirst 35 = .ok (.baload, 1) := by decide +kernel
theorem dX7_takesFirst_36 : decode cX7_takesFirst 36 = .ok (.invokevirtual 135, 3) := by decide +kernel
theorem dX7_takesFirst_39 : decode cX7_takesFirst 39 = .ok (.iinc 2 1, 3) := by decide +kernel
theorem dX7_takesFirst_42 : decode cX7_takesFirst 42 = .ok (.goto (-36), 3) := by decide +kernel
theorem dX7_takesFirst_45 : decode cX7_takesFirst 45 = .ok (.aload_n 0, 1) := by decide +kernel
theorem dX7_takesFirst_46 : decode cX7_takesFirst 46 = .ok (.getfield 80, 3) := by decide +kernel
theorem dX7_takesFirst_49 : decode cX7_takesFirst 49 = .ok (.iload_n 1, 1) := by decide +kernel
theorem dX7_takesFirst_50 : decode cX7_takesFirst 50 = .ok (.dup2, 1) := by decide +kernel
theorem dX7_takesFirst_51 : decode cX7_takesFirst 51 = .ok (.iaload, 1) := by decide +kernel
theorem dX7_takesFirst_52 : decode cX7_takesFirst 52 = .ok (.iconst 1, 1) := by decide +kernel
theorem dX7_takesFirst_53 : decode cX7_takesFirst 53 = .ok (.isub, 1) := by decide +kernel
theorem dX7_takesFirst_54 : decode cX7_takesFirst 54 = .ok (.iastore, 1) := by decide +kernel
theorem dX7_takesFirst_55 : decode cX7_takesFirst 55 = .ok (.return_, 1) := by decide +kernel
abbrev rm7_takesFirst : Room := { frames := 1, cells := 0, slots := 0, locals := 23 }
theorem hd7_takesFirst : yX7_takesFirst.cls ≠ "java/lang/invoke/MethodHandle" ∧ yX7_takesFirst.cls ≠ "java/lang/invoke/VarHandle" ∧ (parseMethodDescriptor yX7_takesFirst.desc).map (fun d => d.parameters.length) = some 1 := by decide +kernel
set_option maxHeartbeats 4000000 in
set_option maxRecDepth 20000 in
theorem ml7_takesFirst_6 {G : xG} {X : xX} (hC : xC G X "PlantServerModel" cX7_takesFirst 3 rm7_takesFirst) (hr : xRt X none) (htab : xTab X []) (this : Nm) (p1 : Int32) {ρ : Nm → Nat} (h0 : xR0 X ρ) (k n : Nat) (hk1 : k ≤ 0) (hk2 : n ≤ 0) (K : Int32 → PH → Prop) (Q : PH → Prop) (Xp : String → PH → Prop) : ∀ (f6 : Nat) (x6_2 : Int32) (τ6 : PH), l7_takesFirst_6 this p1 K Q f6 x6_2 τ6 → (∀ (x6_2 : Int32) (τ6 : PH), K x6_2 τ6 → xJ G X (xT X (eV ρ Q) Xp G rm7_takesFirst) 3 ρ τ6 k n 45 [(0, .ref (ρ this)), (1, .int p1), (2, .int x6_2)] []) → xJ G X (xT X (eV ρ Q) Xp G rm7_takesFirst) 3 ρ τ6 k n 6 [(0, .ref (ρ this)), (1, .int p1), (2, .int x6_2)] [] := by
  intro f6
  induction f6 with
  | zero => intro x6_2 τ6 h hKK; unfold l7_takesFirst_6 at h; exact h.elim
  | succ f6 ih =>
    intro x6_2 τ6 h hKK
    unfold l7_takesFirst_6 at h
    refine x_iload_n hC 2 rfl dX7_takesFirst_6 ?_
    refine x_iconst (v := 4) hC dX7_takesFirst_7 (by decide) ?_
    refine x_iload_n hC 1 rfl dX7_takesFirst_8 ?_
    refine x_imul hC dX7_takesFirst_9 ?_
    refine x_aload_n hC 0 rfl dX7_takesFirst_10 ?_
    obtain ⟨k1, h⟩ := h
    refine x_getR (n0 := this) hC (ci := 7) (T := TX7) (N := 36) (C := RX7) 27 k1 rfl rfl (by decide) rfl q716 dX7_takesFirst_11 ?_
    refine x_iload_n hC 1 rfl dX7_takesFirst_14 ?_
    obtain ⟨m1, hm1, h⟩ := h
    rw [show rv ρ (hR τ6 this 27) = Value.ref (ρ m1) from by rw [hm1]; rfl]
    obtain ⟨k2, h⟩ := h
    obtain ⟨v1, h⟩ := h
    refine x_iald (a := m1) hC k2 v1 dX7_takesFirst_15 ?_
    refine x_iadd hC dX7_takesFirst_16 ?_
    refine x_icmp_ge (tgt := 45) hC dX7_takesFirst_17 (by decide) (fun c1 => ?_) (fun c1 => ?_)
    · have h := h.1 c1
      exact hKK _ _ h
    · have h := h.2 c1
      refine x_aload_n hC 0 rfl dX7_takesFirst_20 ?_
      refine x_iload_n hC 2 rfl dX7_takesFirst_21 ?_
      refine x_iconst (v := 1) hC dX7_takesFirst_22 (by decide) ?_
      refine x_isub hC dX7_takesFirst_23 ?_
      refine x_aload_n hC 0 rfl dX7_takesFirst_24 ?_
      refine x_getR (n0 := this) hC (ci := 7) (T := TX7) (N := 36) (C := RX7) 28 k1 rfl rfl (by decide) rfl q717 dX7_takesFirst_25 ?_
      refine x_iload_n hC 2 rfl dX7_takesFirst_28 ?_
      obtain ⟨m2, hm2, h⟩ := h
      rw [show rv ρ (hR τ6 this 28) = Value.ref (ρ m2) from by rw [hm2]; rfl]
      obtain ⟨k3, h⟩ := h
      obtain ⟨v2, h⟩ := h
      refine x_iald (a := m2) hC k3 v2 dX7_takesFirst_29 ?_
      refine x_aload_n hC 0 rfl dX7_takesFirst_30 ?_
      refine x_getR (n0 := this) hC (ci := 7) (T := TX7) (N := 36) (C := RX7) 29 k1 rfl rfl (by decide) rfl q718 dX7_takesFirst_31 ?_
      refine x_iload_n hC 2 rfl dX7_takesFirst_34 ?_
      obtain ⟨m3, hm3, h⟩ := h
      rw [show rv ρ (hR τ6 this 29) = Value.ref (ρ m3) from by rw [hm3]; rfl]
      obtain ⟨k4, h⟩ := h
      obtain ⟨v3, h⟩ := h
      refine x_zald (a := m3) hC k4 v3 dX7_takesFirst_35 ?_
      refine x_callV (n0 := this) (as := [.int (x6_2 - 1), .int (hI τ6 m2 (Int32.toNatClampNeg x6_2)), .int (hI τ6 m3 (Int32.toNatClampNeg x6_2))]) (rest := []) hC (ci := 7) (r := (RX7, TX7, 36)) k1 rfl (fun l hl => m7_puts l hl G ρ this (x6_2 - 1) (hI τ6 m2 (Int32.toNatClampNeg x6_2)) (hI τ6 m3 (Int32.toNatClampNeg x6_2)) τ6 _ h) q832 q834 s16 q3 q835 ⟨rfl, hd7_puts⟩ (by decide) ⟨(show _ + 0 ≤ 0 by omega), (show _ + 0 ≤ 0 by omega)⟩ (by first | exact Nat.le_of_ble_eq_true rfl | (simp [rv_cat]; done) | (simp (decide := true) [rv_cat, cat_ref, cat_int]; done)) rfl dX7_takesFirst_36 (fun E σ9 hx => False.elim hx) (fun v4 σ1 ρ1 hp1 hag1 => ?_)
      obtain ⟨e9, e8, h⟩ := hp1
      rw [e8, e9]
      refine xJ.nrm (k' := k + 0) (n' := n + 0) (pc' := 39) (st' := []) rfl rfl rfl rfl ?_
      refine x_iinc (v' := x6_2 + 1) (L' := [(2, .int (x6_2 + 1)), (0, .ref (ρ this)), (1, .int p1)]) hC 2 rfl dX7_takesFirst_39 rfl (by decide) (by first | rfl | simp (decide := true) [rv_cat, cat_ref, cat_int]) ?_
      refine x_goto (tgt := 6) hC dX7_takesFirst_42 (by decide) ?_
      refine xJ.sub (L' := [(0, .ref (ρ this)), (1, .int p1), (2, .int (x6_2 + 1))]) [1, 2, 0] rfl ?_
      exact ih _ _ h hKK
set_option maxHeartbeats 4000000 in
set_option maxRecDepth 20000 in
theorem m7_takesFirst (l : Launch) (hl : l.stackTraces = false) (G : xG) (ρ : Nm → Nat) (this : Nm) (p1 : Int32) (σ : PH) (Q : PH → Prop) (h : w7_takesFirst this p1 σ Q) : xMet l yX7_takesFirst (.code yX7_takesFirst cX7_takesFirst 3 none) rm7_takesFirst G ρ σ [.ref (ρ this), .int p1] (eV ρ Q) xNo := by
  refine xMet.of hl (by decide +kernel) (Nat.le_of_ble_eq_true rfl) (fun X hC hr hn htab h0 => ?_)
  have hC : xC G X "PlantServerModel" cX7_takesFirst 3 rm7_takesFirst := hC
  unfold w7_takesFirst at h
  refine xJ.loc (L' := [(0, .ref (ρ this)), (1, .int p1)]) rfl ?_
  refine x_iconst (v := 4) hC dX7_takesFirst_0 (by decide) ?_
  refine x_iload_n hC 1 rfl dX7_takesFirst_1 ?_
  refine x_imul hC dX7_takesFirst_2 ?_
  refine x_iconst (v := 1) hC dX7_takesFirst_3 (by decide) ?_
  refine x_iadd hC dX7_takesFirst_4 ?_
  refine x_istore_n (L' := [(2, .int ((4 * p1) + 1)), (0, .ref (ρ this)), (1, .int p1)]) hC dX7_takesFirst_5 (by decide) (by first | rfl | simp (decide := true) [rv_cat, cat_ref, cat_int]) ?_
  refine xJ.sub (L' := [(0, .ref (ρ this)), (1, .int p1), (2, .int ((4 * p1) + 1))]) [1, 2, 0] rfl ?_
  obtain ⟨f6, h⟩ := h
  refine ml7_takesFirst_6 hC hr htab this p1 h0 (0) (0) (by decide) (by decide) _ Q _ f6 _ _ h (fun y1 τ1 h => ?_)
  refine x_aload_n hC 0 rfl dX7_takesFirst_45 ?_
  obtain ⟨k5, h⟩ := h
  refine x_getR (n0 := this) hC (ci := 7) (T := TX7) (N := 36) (C := RX7) 27 k5 rfl rfl (by decide) rfl q716 dX7_takesFirst_46 ?_
  refine x_iload_n hC 1 rfl dX7_takesFirst_49 ?_
  refine x_dup2 hC (by first | rfl | exact rv_cat) (by first | rfl | exact rv_cat) dX7_takesFirst_50 ?_
  obtain ⟨m4, hm4, h⟩ := h
  rw [show rv ρ (hR τ1 this 27) = Value.ref (ρ m4) from by rw [hm4]; rfl]
  obtain ⟨k6, h⟩ := h
  obtain ⟨v5, h⟩ := h
  refine x_iald (a := m4) hC k6 v5 dX7_takesFirst_51 ?_
  refine x_iconst (v := 1) hC dX7_takesFirst_52 (by decide) ?_
  refine x_isub hC dX7_takesFirst_53 ?_
  refine x_iast (a := m4) hC k6 v5 dX7_takesFirst_54 ?_
  refine xJ.nmH (fun σ2 e1 => ?_)
  have h := h σ2 e1
  have r1 : hR σ2 = hR τ1 ∧ hL σ2 = hL τ1 := by rw [e1]; exact ⟨rfl, rfl⟩
  exact x_vret hC hr dX7_takesFirst_55 (by decide) (by decide) ⟨rfl, rfl, h⟩
