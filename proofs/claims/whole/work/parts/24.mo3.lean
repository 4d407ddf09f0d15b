theorem rm_T {w : cd_Wd} {m : Nat} {B : Nat → Nat} {σ : cd_S} {g : Nat → Bool} (h : RepM w m B σ g) (d : Nat) {o : Nat} (ho : o < 12) (b : Bool) : RepM (cd_wI w 1001 (B 4) (d * 12 + o) (cd_b b)) m B (setT σ d o b) g := rm_w h (k := 4) (by omega) (by omega) ⟨rfl, rfl⟩ (h.V.T d ho b) h.wf
theorem rm_E {w : cd_Wd} {m : Nat} {B : Nat → Nat} {σ : cd_S} {g : Nat → Bool} (h : RepM w m B σ g) (d : Nat) (b : Bool) : RepM (cd_wI w 1001 (B 3) d (cd_b b)) m B (setE σ d b) g := rm_w h (k := 3) (by omega) (by omega) ⟨rfl, rfl⟩ (h.V.E d b) h.wf
theorem rm_S {w : cd_Wd} {m : Nat} {B : Nat → Nat} {σ : cd_S} {g : Nat → Bool} (h : RepM w m B σ g) (d : Nat) {i : Nat} (hi : i < 8) (r : Option Nat) (hr : ∀ c, r = some c → c < sC σ) : RepM (cd_wI w 1000 (B 7) (d * 8 + i) (cd_l r)) m B (setS σ d i r) g := by
  refine rm_w h (k := 7) (by omega) (by omega) ⟨rfl, rfl⟩ (h.V.S d hi r) ?_
  obtain ⟨g1, g2, g3, g4⟩ := h.wf
  refine ⟨fun d' i' c hd' hi' hq => ?_, g2, g3, g4⟩
  rw [sS_setS] at hq
  split at hq
  · exact hr c hq
  · exact g1 d' i' c hd' hi' hq
theorem rm_G {w : cd_Wd} {m : Nat} {B : Nat → Nat} {σ : cd_S} {g : Nat → Bool} (h : RepM w m B σ g) (c : Nat) : RepM (cd_wI w 1001 (B 12) c 1) m B σ (fun k => if k = c then true else g k) := rm_w h (k := 12) (by omega) (by omega) ⟨rfl, rfl⟩ (h.V.G c) h.wf
set_option maxHeartbeats 4000000 in
set_option maxRecDepth 100000 in
theorem ct_Mo_newObject {G : cd_Gl} {l : Launch} {w : cd_Wd} {Q : cd_Out → cd_Wd → Prop} {m : Nat} {B : Nat → Nat} {σ : cd_S} {g : Nat → Bool} (hM : RepM w m B σ g) {d : Nat} (hd : d < 6) (hc : cnt (sT σ d) 12 < 12) (h : ∀ w', RepM w' m B (newO σ d (fo σ d)) g → cd_Fr w w' (fun y => y = B 4 ∨ y = B 5 ∨ y = B 6) → Q (.inl (some (.int (nI (fo σ d))))) w') : cd_Ct G l y_Mo_newObject 1 0 0 [.ref m, .int (nI d)] w Q := by
  refine cd_ofW cw_Mo_newObject (by simp [Value.category, cat_rf]) (Nat.le_of_ble_eq_true rfl) fun C O => ?_
  change cd_Go G l C _ 0 0 w 0 [some (.ref m), some (.int (nI d)), none, none] []
  obtain ⟨f1, f2, f3⟩ := ffr_sp hc
  have f1 : fo σ d < 12 := f1
  have f2 : sT σ d (fo σ d) = false := f2
  have loop2 : ∀ (j : Nat) (v : cd_Wd), j ≤ 3 → (RepM v m B (itr (fun τ f => setF τ d (fo σ d) f zF) (setT σ d (fo σ d) true) j) g ∧ cd_Fr w v (fun y => y = B 4 ∨ y = B 5 ∨ y = B 6)) → cd_Go G l C (cd_MQ G (cx_s C) (cx_b C) 0 0 Q) (0) (0) v 36 [some (.ref m), some (.int (nI d)), some (.int (nI (fo σ d))), some (.int (nI j))] [] := by
    refine lp (3) (P := fun j v => RepM v m B (itr (fun τ f => setF τ d (fo σ d) f zF) (setT σ d (fo σ d) true) j) g ∧ cd_Fr w v (fun y => y = B 4 ∨ y = B 5 ∨ y = B 6)) (g := fun j v => cd_Go G l C (cd_MQ G (cx_s C) (cx_b C) 0 0 Q) (0) (0) v 36 [some (.ref m), some (.int (nI d)), some (.int (nI (fo σ d))), some (.int (nI j))] []) (fun v hP => ?_) (fun j v hj hP ih => ?_)
    · skip
      refine g_iload_n O 3 d_Mo_newObject_36 rfl rfl ?_
      refine g_iconst (v := 3) O d_Mo_newObject_37 (by decide) ?_
      refine g_icmp_ge  O 63 d_Mo_newObject_38 (by decide) (fun c38 => ?_) (fun c38 => ?_)
      · refine g_iload_n O 2 d_Mo_newObject_63 rfl rfl ?_
        refine g_iret O d_Mo_newObject_64 (Nat.le_of_ble_eq_true rfl) (Nat.le_of_ble_eq_true rfl) ?_
        exact h v hP.1 hP.2
      · exact absurd (show (3 : Int32) ≤ nI 3 from by decide) c38
    · skip
      obtain ⟨hM, hF⟩ := hP
      refine g_iload_n O 3 d_Mo_newObject_36 rfl rfl ?_
      refine g_iconst (v := 3) O d_Mo_newObject_37 (by decide) ?_
      refine g_icmp_ge  O 63 d_Mo_newObject_38 (by decide) (fun c38 => ?_) (fun c38 => ?_)
      · exact absurd c38 (nI_ge (b := 3) hj (by omega))
      · first | refine g_aload_n O 0 d_Mo_newObject_41 rfl rfl ?_ | refine g_aload_nq O 0 d_Mo_newObject_41 rfl rfl ?_
        refine g_iload_n O 1 d_Mo_newObject_42 rfl rfl ?_
        refine g_bipush (v := 12) O d_Mo_newObject_43 (by decide) ?_
        refine g_imul O d_Mo_newObject_45 ?_
        refine g_iload_n O 2 d_Mo_newObject_46 rfl rfl ?_
        refine g_iadd O d_Mo_newObject_47 ?_
        refine g_iconst (v := 3) O d_Mo_newObject_48 (by decide) ?_
        refine g_imul O d_Mo_newObject_49 ?_
        refine g_iload_n O 3 d_Mo_newObject_50 rfl rfl ?_
        refine g_iadd O d_Mo_newObject_51 ?_
        refine g_iconst (v := 0) O d_Mo_newObject_52 (by decide) ?_
        refine g_iconst (v := 0) O d_Mo_newObject_53 (by decide) ?_
        rw [m12, nI_add, m3, nI_add]
        refine g_callv (N := 0) (mc := 0) (ms := 0) (av := [_, _, _]) O (Or.inl ⟨_, _, cw_Mo_put⟩) pl_Mo (ci := 6) (q := q_Mo) rfl hM.km ml_Mo_90 im_Mo_put se_Mo_put rfl d_Mo_newObject_54 rfl (Nat.le_of_ble_eq_true rfl) (Nat.le_of_ble_eq_true rfl) (Nat.le_of_ble_eq_true rfl) (Nat.le_of_ble_eq_true rfl) ?_
        refine ct_Mo_put (t := zF) hM hd f1 hj rfl rfl rfl (fun _ z => by cases z) (fun _ z => by cases z) (fun w2 hM2 hF2 => ?_)
        change cd_Go _ _ _ _ _ _ _ _ _ _
        first | refine g_iinc O d_Mo_newObject_57 rfl (ic1 _) ?_ | refine g_iinc O d_Mo_newObject_57 rfl rfl ?_
        refine g_goto O 36 d_Mo_newObject_60 (by decide) ?_
        exact ih w2 ⟨hM2, hF.tr (hF2.up fun y _ z => Or.inr z)⟩
  have loop : ∀ r o, o + r = fo σ d → cd_Go G l C (cd_MQ G (cx_s C) (cx_b C) 0 0 Q) 0 0 w 2 [some (.ref m), some (.int (nI d)), some (.int (nI o)), none] [] := by
    intro r
    induction r with
    | zero =>
      intro o e
      obtain rfl : o = fo σ d := by omega
      first | refine g_aload_n O 0 d_Mo_newObject_2 rfl rfl ?_ | refine g_aload_nq O 0 d_Mo_newObject_2 rfl rfl ?_
      refine g_getS O c_Mo 4 (by decide) rfl hM.km lk_Mo_23 d_Mo_newObject_3 (hM.a 4 (by omega) (by omega)).1 ?_
      refine g_iload_n O 1 d_Mo_newObject_6 rfl rfl ?_
      refine g_bipush (v := 12) O d_Mo_newObject_7 (by decide) ?_
      refine g_imul O d_Mo_newObject_9 ?_
      refine g_iload_n O 2 d_Mo_newObject_10 rfl rfl ?_
      refine g_iadd O d_Mo_newObject_11 ?_
      rw [m12, nI_add]
      refine g_zaldV O 1 rfl rfl (hM.a 4 (by omega) (by omega)).2.1 (by (try simp only [ln_wI]); rw [(hM.a 4 (by omega) (by omega)).2.2]; exact ix_in (n := 72) (show d * 12 + fo σ d < 72 from by omega) (by omega)) d_Mo_newObject_12 (Eq.trans (congrArg (cd_I _ (1000 + 1) (B 4)) (cl_nI (j := d * 12 + fo σ d) (by omega))) (hM.T hd f1)) ?_
      refine g_if_eq  O 22 d_Mo_newObject_13 (by decide) (fun c13 => ?_) (fun c13 => ?_)
      · first | refine g_aload_n O 0 d_Mo_newObject_22 rfl rfl ?_ | refine g_aload_nq O 0 d_Mo_newObject_22 rfl rfl ?_
        refine g_getS O c_Mo 4 (by decide) rfl hM.km lk_Mo_23 d_Mo_newObject_23 (hM.a 4 (by omega) (by omega)).1 ?_
        refine g_iload_n O 1 d_Mo_newObject_26 rfl rfl ?_
        refine g_bipush (v := 12) O d_Mo_newObject_27 (by decide) ?_
        refine g_imul O d_Mo_newObject_29 ?_
        refine g_iload_n O 2 d_Mo_newObject_30 rfl rfl ?_
        refine g_iadd O d_Mo_newObject_31 ?_
        refine g_iconst (v := 1) O d_Mo_newObject_32 (by decide) ?_
        rw [m12, nI_add]
        refine g_zast O 1 rfl rfl (hM.a 4 (by omega) (by omega)).2.1 (by (try simp only [ln_wI]); rw [(hM.a 4 (by omega) (by omega)).2.2]; exact ix_in (n := 72) (show d * 12 + fo σ d < 72 from by omega) (by omega)) (by first | exact Or.inl rfl | exact Or.inr rfl | assumption) d_Mo_newObject_33 ?_
        refine g_iconst (v := 0) O d_Mo_newObject_34 (by decide) ?_
        refine g_istore_n O 3 d_Mo_newObject_35 rfl (Nat.le_of_ble_eq_true rfl) ?_
        rw [cl_nI (by omega)]
        exact loop2 0 _ (by omega) ⟨rm_T hM d f1 true, cd_Fr.wI (Or.inl rfl)⟩
      · rw [f2] at c13; exact absurd rfl c13
    | succ r ih =>
      intro o e
      first | refine g_aload_n O 0 d_Mo_newObject_2 rfl rfl ?_ | refine g_aload_nq O 0 d_Mo_newObject_2 rfl rfl ?_
      refine g_getS O c_Mo 4 (by decide) rfl hM.km lk_Mo_23 d_Mo_newObject_3 (hM.a 4 (by omega) (by omega)).1 ?_
      refine g_iload_n O 1 d_Mo_newObject_6 rfl rfl ?_
      refine g_bipush (v := 12) O d_Mo_newObject_7 (by decide) ?_
      refine g_imul O d_Mo_newObject_9 ?_
      refine g_iload_n O 2 d_Mo_newObject_10 rfl rfl ?_
      refine g_iadd O d_Mo_newObject_11 ?_
      rw [m12, nI_add]
      refine g_zaldV O 1 rfl rfl (hM.a 4 (by omega) (by omega)).2.1 (by (try simp only [ln_wI]); rw [(hM.a 4 (by omega) (by omega)).2.2]; exact ix_in (n := 72) (show d * 12 + o < 72 from by omega) (by omega)) d_Mo_newObject_12 (Eq.trans (congrArg (cd_I _ (1000 + 1) (B 4)) (cl_nI (j := d * 12 + o) (by omega))) (hM.T hd (show o < 12 by omega))) ?_
      refine g_if_eq  O 22 d_Mo_newObject_13 (by decide) (fun c13 => ?_) (fun c13 => ?_)
      · have q := f3 o (show o < fo σ d by omega)
        rw [q] at c13; exact absurd c13 (by decide)
      · first | refine g_iinc O d_Mo_newObject_16 rfl (ic1 _) ?_ | refine g_iinc O d_Mo_newObject_16 rfl rfl ?_
        refine g_goto O 2 d_Mo_newObject_19 (by decide) ?_
        exact ih (o + 1) (by omega)
  refine g_iconst (v := 0) O d_Mo_newObject_0 (by decide) ?_
  refine g_istore_n O 2 d_Mo_newObject_1 rfl (Nat.le_of_ble_eq_true rfl) ?_
  exact loop (fo σ d) 0 (by omega)
theorem rm_D {w : cd_Wd} {m : Nat} {B : Nat → Nat} {σ : cd_S} {g : Nat → Bool} (h : RepM w m B σ g) (hz : dfl σ) (h6 : sD σ < 6) : RepM (cd_wI w 192 m 0 (nI (sD σ + 1))) m B (addD σ) g := by
  obtain ⟨a1, a2, a3, a4, a5, a6, a7⟩ := h
  refine ⟨⟨a1.1, a1.2.1, a1.2.2⟩, ?_, ?_, h6, a5, ?_, ?_⟩
  · rw [I_wI, if_pos ⟨rfl, rfl, rfl⟩]; rfl
  · rw [I_wI, if_neg (by simp)]; exact a3
  · refine RC.cg (V := mV w B) ?_ fun k j _ _ => ?_
    · exact a6
    · simp only [mV]
      rw [I_wI, if_neg (fun z => ?_)]
      have : mtg k = 1000 ∨ mtg k = 1001 := by unfold mtg; split <;> simp
      omega
  · obtain ⟨g1, g2, g3, g4⟩ := a7
    obtain ⟨z1, z2, z3, z4⟩ := hz (sD σ) (Nat.le_refl _)
    refine ⟨fun d i c hd hi hc => ?_, fun d o f c hd ho hf hc => ?_, fun d o f t hd ho hf ht => ?_, fun c hc => ?_⟩
    · by_cases e : d = sD σ
      · subst e
        have z : sS (addD σ) (sD σ) i = none := z4 i
        rw [z] at hc; cases hc
      · exact g1 d i c (by have h1 : d < sD σ + 1 := hd; omega) hi hc
    · by_cases e : d = sD σ
      · subst e
        have z : sF (addD σ) (sD σ) o f = zF := z3 o f
        rw [z] at hc; cases hc
      · exact g2 d o f c (by have h1 : d < sD σ + 1 := hd; omega) ho hf hc
    · by_cases e : d = sD σ
      · subst e
        have z : sF (addD σ) (sD σ) o f = zF := z3 o f
        rw [z] at ht; cases ht
      · exact g3 d o f t (by have h1 : d < sD σ + 1 := hd; omega) ho hf ht
    · obtain ⟨y1, y2, y3⟩ := g4 c hc
      exact ⟨Nat.lt_succ_of_lt y1, y2, y3⟩
theorem rm_K {w : cd_Wd} {m : Nat} {B : Nat → Nat} {σ : cd_S} {g : Nat → Bool} (h : RepM w m B σ g) {hm tg : Nat} {pa : Option Nat} {r u : Int32} (hh : hm < sD σ) (ht : tg < 12) (hp : ∀ p, pa = some p → p < sC σ) (h40 : sC σ < 40) :
    RepM (cd_wI (cd_wI (cd_wI (cd_wI (cd_wI w 1000 (B 8) (sC σ) (nI (hm * 12 + tg))) 1000 (B 9) (sC σ) r) 1000 (B 10) (sC σ) u) 1000 (B 11) (sC σ) (cd_l pa)) 193 m 0 (nI (sC σ + 1))) m B (addK σ (hm, tg, pa, r, u, false, false)) g := by
  obtain ⟨a1, a2, a3, a4, a5, a6, a7⟩ := h
  have hmB : ∀ k, 3 ≤ k → k ≤ 16 → ¬ m = B k := fun k h1 h2 e => by
    have := (a1.2.1 k h1 h2).2.1
    rw [← e, a1.1] at this
    unfold mk_k at this
    split at this <;> cases this
  have hc := a6.K hm tg pa r u
  refine ⟨⟨a1.1, a1.2.1, a1.2.2⟩, ?_, ?_, a4, h40, hc.cg fun k j h3 h4 => ?_, ?_⟩
  · rw [I_wI, if_neg (by simp)]
    rw [I_wI, if_neg (fun z => hmB 11 (by omega) (by omega) z.2.1), I_wI, if_neg (fun z => hmB 10 (by omega) (by omega) z.2.1), I_wI, if_neg (fun z => hmB 9 (by omega) (by omega) z.2.1), I_wI, if_neg (fun z => hmB 8 (by omega) (by omega) z.2.1)]
    exact a2
  · rw [I_wI, if_pos ⟨rfl, rfl, rfl⟩]; rfl
  · have e1 : mV (cd_wI (cd_wI (cd_wI (cd_wI (cd_wI w 1000 (B 8) (sC σ) (nI (hm * 12 + tg))) 1000 (B 9) (sC σ) r) 1000 (B 10) (sC σ) u) 1000 (B 11) (sC σ) (cd_l pa)) 193 m 0 (nI (sC σ + 1))) B k j = mV (cd_wI (cd_wI (cd_wI (cd_wI w 1000 (B 8) (sC σ) (nI (hm * 12 + tg))) 1000 (B 9) (sC σ) r) 1000 (B 10) (sC σ) u) 1000 (B 11) (sC σ) (cd_l pa)) B k j := by
      simp only [mV]
      rw [I_wI, if_neg (fun z => ?_)]
      have : mtg k = 1000 ∨ mtg k = 1001 := by unfold mtg; split <;> simp
      omega
    rw [e1]
    have s1 : shM (cd_wI w 1000 (B 8) (sC σ) (nI (hm * 12 + tg))) m B := ⟨a1.1, a1.2.1, a1.2.2⟩
    have s2 : shM (cd_wI (cd_wI w 1000 (B 8) (sC σ) (nI (hm * 12 + tg))) 1000 (B 9) (sC σ) r) m B := ⟨a1.1, a1.2.1, a1.2.2⟩
    have s3 : shM (cd_wI (cd_wI (cd_wI w 1000 (B 8) (sC σ) (nI (hm * 12 + tg))) 1000 (B 9) (sC σ) r) 1000 (B 10) (sC σ) u) m B := ⟨a1.1, a1.2.1, a1.2.2⟩
    have q4 := mV_w (k := 11) (j := sC σ) (v := cd_l pa) s3 (by omega) (by omega) h3 h4 (j' := j)
    have q3 := mV_w (k := 10) (j := sC σ) (v := u) s2 (by omega) (by omega) h3 h4 (j' := j)
    have q2 := mV_w (k := 9) (j := sC σ) (v := r) s1 (by omega) (by omega) h3 h4 (j' := j)
    have q1 := mV_w (k := 8) (j := sC σ) (v := nI (hm * 12 + tg)) a1 (by omega) (by omega) h3 h4 (j' := j)
    refine Eq.trans q4 ?_
    show (if _ then _ else _) = (if _ then _ else _)
    refine congrArg (fun z => if k = 11 ∧ j = sC σ then cd_l pa else z) (q3.trans ?_)
    refine congrArg (fun z => if k = 10 ∧ j = sC σ then u else z) (q2.trans ?_)
    exact congrArg (fun z => if k = 9 ∧ j = sC σ then r else z) q1
  · obtain ⟨g1, g2, g3, g4⟩ := a7
    refine ⟨fun d i c hd hi hc => Nat.lt_succ_of_lt (g1 d i c hd hi hc), fun d o f c hd ho hf hc => Nat.lt_succ_of_lt (g2 d o f c hd ho hf hc), g3, fun c hc => ?_⟩
    by_cases e : c = sC σ
    · subst e
      simp only [kH, kT, kP, sK_aK, if_true]
      exact ⟨hh, ht, hp⟩
    · have e0 : sK (addK σ (hm, tg, pa, r, u, false, false)) c = sK σ c := by rw [sK_aK, if_neg e]
      have q1 := g4 c (by have h1 : c < sC σ + 1 := hc; omega)
      simp only [kH, kT, kP, e0] at q1 ⊢
      exact q1
theorem mB_ne {w : cd_Wd} {m : Nat} {B : Nat → Nat} {σ : cd_S} {g : Nat → Bool} (h : RepM w m B σ g) {k : Nat} (h1 : 3 ≤ k) (h2 : k ≤ 16) : ¬ m = B k := fun e => by
  have := (h.a k h1 h2).2.1
  rw [← e, h.km] at this
  unfold mk_k at this
  split at this <;> cases this
set_option maxHeartbeats 4000000 in
set_option maxRecDepth 100000 in
theorem ct_Mo_capability {G : cd_Gl} {l : Launch} {w : cd_Wd} {Q : cd_Out → cd_Wd → Prop} {m : Nat} {B : Nat → Nat} {σ : cd_S} {g : Nat → Bool} (hM : RepM w m B σ g) {hm tg : Nat} {pa : Option Nat} {r u : Int32} (hh : hm < sD σ) (ht : tg < 12) (hp : ∀ p, pa = some p → p < sC σ) (h40 : sC σ < 40) (h : ∀ w', RepM w' m B (addK σ (hm, tg, pa, r, u, false, false)) g → cd_Fr w w' (mow m B) → Q (.inl (some (.int (nI (sC σ))))) w') : cd_Ct G l y_Mo_capability 0 0 0 [.ref m, .int (nI (hm * 12 + tg)), .int r, .int u, .int (cd_l pa)] w Q := by
  refine cd_ofW cw_Mo_capability (by simp [Value.category, cat_rf]) (Nat.le_of_ble_eq_true rfl) fun C O => ?_
  change cd_Go G l C _ 0 0 w 0 [some (.ref m), some (.int (nI (hm * 12 + tg))), some (.int r), some (.int u), some (.int (cd_l pa))] []
  first | refine g_aload_n O 0 d_Mo_capability_0 rfl rfl ?_ | refine g_aload_nq O 0 d_Mo_capability_0 rfl rfl ?_
  refine g_getS O c_Mo 8 (by decide) rfl hM.km lk_Mo_36 d_Mo_capability_1 (hM.a 8 (by omega) (by omega)).1 ?_
  first | refine g_aload_n O 0 d_Mo_capability_4 rfl rfl ?_ | refine g_aload_nq O 0 d_Mo_capability_4 rfl rfl ?_
  refine g_getV O c_Mo 1 (by decide) rfl hM.km lk_Mo_13 d_Mo_capability_5 hM.C ?_
  refine g_iload_n O 1 d_Mo_capability_8 rfl rfl ?_
  refine g_iast O 0 rfl rfl (hM.a 8 (by omega) (by omega)).2.1 (by (try simp only [ln_wI]); rw [(hM.a 8 (by omega) (by omega)).2.2]; exact ix_in (n := 40) (show sC σ < 40 from by omega) (by omega)) d_Mo_capability_9 ?_
  first | refine g_aload_n O 0 d_Mo_capability_10 rfl rfl ?_ | refine g_aload_nq O 0 d_Mo_capability_10 rfl rfl ?_
  refine g_getS O c_Mo 9 (by decide) rfl hM.km lk_Mo_39 d_Mo_capability_11 (hM.a 9 (by omega) (by omega)).1 ?_
  first | refine g_aload_n O 0 d_Mo_capability_14 rfl rfl ?_ | refine g_aload_nq O 0 d_Mo_capability_14 rfl rfl ?_
  refine g_getV O c_Mo 1 (by decide) rfl hM.km lk_Mo_13 d_Mo_capability_15 (show cd_I _ 193 m 0 = nI (sC σ) from by rw [I_wI, if_neg (fun z => mB_ne hM (k := 8) (by omega) (by omega) z.2.1)]; exact hM.C) ?_
  refine g_iload_n O 2 d_Mo_capability_18 rfl rfl ?_
  refine g_iast O 0 rfl rfl (hM.a 9 (by omega) (by omega)).2.1 (by (try simp only [ln_wI]); rw [(hM.a 9 (by omega) (by omega)).2.2]; exact ix_in (n := 40) (show sC σ < 40 from by omega) (by omega)) d_Mo_capability_19 ?_
  first | refine g_aload_n O 0 d_Mo_capability_20 rfl rfl ?_ | refine g_aload_nq O 0 d_Mo_capability_20 rfl rfl ?_
  refine g_getS O c_Mo 10 (by decide) rfl hM.km lk_Mo_42 d_Mo_capability_21 (hM.a 10 (by omega) (by omega)).1 ?_
  first | refine g_aload_n O 0 d_Mo_capability_24 rfl rfl ?_ | refine g_aload_nq O 0 d_Mo_capability_24 rfl rfl ?_
  refine g_getV O c_Mo 1 (by decide) rfl hM.km lk_Mo_13 d_Mo_capability_25 (show cd_I _ 193 m 0 = nI (sC σ) from by rw [I_wI, if_neg (fun z => mB_ne hM (k := 9) (by omega) (by omega) z.2.1)]; rw [I_wI, if_neg (fun z => mB_ne hM (k := 8) (by omega) (by omega) z.2.1)]; exact hM.C) ?_
  refine g_iload_n O 3 d_Mo_capability_28 rfl rfl ?_
  refine g_iast O 0 rfl rfl (hM.a 10 (by omega) (by omega)).2.1 (by (try simp only [ln_wI]); rw [(hM.a 10 (by omega) (by omega)).2.2]; exact ix_in (n := 40) (show sC σ < 40 from by omega) (by omega)) d_Mo_capability_29 ?_
  first | refine g_aload_n O 0 d_Mo_capability_30 rfl rfl ?_ | refine g_aload_nq O 0 d_Mo_capability_30 rfl rfl ?_
  refine g_getS O c_Mo 11 (by decide) rfl hM.km lk_Mo_45 d_Mo_capability_31 (hM.a 11 (by omega) (by omega)).1 ?_
  first | refine g_aload_n O 0 d_Mo_capability_34 rfl rfl ?_ | refine g_aload_nq O 0 d_Mo_capability_34 rfl rfl ?_
  refine g_getV O c_Mo 1 (by decide) rfl hM.km lk_Mo_13 d_Mo_capability_35 (show cd_I _ 193 m 0 = nI (sC σ) from by rw [I_wI, if_neg (fun z => mB_ne hM (k := 10) (by omega) (by omega) z.2.1)]; rw [I_wI, if_neg (fun z => mB_ne hM (k := 9) (by omega) (by omega) z.2.1)]; rw [I_wI, if_neg (fun z => mB_ne hM (k := 8) (by omega) (by omega) z.2.1)]; exact hM.C) ?_
  refine g_iload O d_Mo_capability_38 rfl ?_
  refine g_iast O 0 rfl rfl (hM.a 11 (by omega) (by omega)).2.1 (by (try simp only [ln_wI]); rw [(hM.a 11 (by omega) (by omega)).2.2]; exact ix_in (n := 40) (show sC σ < 40 from by omega) (by omega)) d_Mo_capability_40 ?_
  first | refine g_aload_n O 0 d_Mo_capability_41 rfl rfl ?_ | refine g_aload_nq O 0 d_Mo_capability_41 rfl rfl ?_
  refine g_dup O d_Mo_capability_42 (by first | rfl | exact cat_rf _) ?_
  refine g_getV O c_Mo 1 (by decide) rfl hM.km lk_Mo_13 d_Mo_capability_43 (show cd_I _ 193 m 0 = nI (sC σ) from by rw [I_wI, if_neg (fun z => mB_ne hM (k := 11) (by omega) (by omega) z.2.1)]; rw [I_wI, if_neg (fun z => mB_ne hM (k := 10) (by omega) (by omega) z.2.1)]; rw [I_wI, if_neg (fun z => mB_ne hM (k := 9) (by omega) (by omega) z.2.1)]; rw [I_wI, if_neg (fun z => mB_ne hM (k := 8) (by omega) (by omega) z.2.1)]; exact hM.C) ?_
  refine g_iconst (v := 1) O d_Mo_capability_46 (by decide) ?_
  refine g_iadd O d_Mo_capability_47 ?_
  rw [nI_1]
  simp only [cl_nI (show sC σ < 2 ^ 31 by omega)]
  have hM2 := rm_K (r := r) (u := u) hM hh ht hp h40
  refine g_putI O c_Mo 1 (by decide) rfl hM.km (Or.inl rfl) (Or.inl rfl) lk_Mo_13 d_Mo_capability_48 ?_
  first | refine g_aload_n O 0 d_Mo_capability_51 rfl rfl ?_ | refine g_aload_nq O 0 d_Mo_capability_51 rfl rfl ?_
  refine g_getV O c_Mo 1 (by decide) rfl hM2.km lk_Mo_13 d_Mo_capability_52 (show cd_I _ 193 m 0 = nI (sC σ + 1) from by rw [I_wI, if_pos ⟨rfl, rfl, rfl⟩]) ?_
  refine g_iconst (v := 1) O d_Mo_capability_55 (by decide) ?_
  refine g_isub O d_Mo_capability_56 ?_
  rw [nI_pred]
  refine g_iret O d_Mo_capability_57 (Nat.le_of_ble_eq_true rfl) (Nat.le_of_ble_eq_true rfl) ?_
  refine h _ hM2 ?_
  refine cd_Fr.tr ?_ (cd_Fr.wI (Or.inl rfl))
  refine cd_Fr.tr ?_ (cd_Fr.wI (mow_k (k := 11) (by omega) (by omega)))
  refine cd_Fr.tr ?_ (cd_Fr.wI (mow_k (k := 10) (by omega) (by omega)))
  refine cd_Fr.tr ?_ (cd_Fr.wI (mow_k (k := 9) (by omega) (by omega)))
  exact cd_Fr.wI (mow_k (k := 8) (by omega) (by omega))
