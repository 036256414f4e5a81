
/-! constructors: worlds that grow -/
abbrev kTY (cI cQ cJ : ClassId) : List (ClassId × FieldType) := [(cI, .int), (cQ, .object RX3), (cJ, .array .int)]
theorem va_AOA.moved {t : FieldType} {u U : State} (hvm : u.vm.Alike U.vm) (h : va_AOA t u) : va_AOA t U := by
  have h2 : (Cond.arrayOver (.array t)).before #[] (u.setVm U.vm) = true := by rw [Cond.arrayOver_setVmC hvm]; exact h
  exact h2
def kx_K (D : va_G) (cI cQ cJ : ClassId) (U : State) : Prop := va_K D gx_cl (kTY cI cQ cJ) U ∧ va_AO RX3 U ∧ va_AOA .int U ∧ va_Nw (.methodLinkNest RX5 9 yX2_init "BassButtons") U ∧ va_Nw (.methodLinkNest RX4 11 yX1_init "BassButtons") U ∧ va_Nw (.methodLinkNest RX4 41 yX3_init "BassButtons") U ∧ va_Nw (.methodLinkNest RX5 35 yX0_init "BassButtons") U
theorem kx_K.warm {D : va_G} {cI cQ cJ : ClassId} {s U : State} (hW : s.WarmedH U.vm) (h : kx_K D cI cQ cJ s) : kx_K D cI cQ cJ U := by
  obtain ⟨h1, h2, h3, h4, h5, h6, h7⟩ := h
  exact ⟨va_K.moved hW.alike h1, va_AO.moved hW.alike h2, va_AOA.moved hW.alike h3, va_Nw.warmM hW h4, va_Nw.warmM hW h5, va_Nw.warmM hW h6, va_Nw.warmM hW h7⟩
theorem kx_K.frame {D : va_G} {cI cQ cJ : ClassId} {U : State} {g : JFrame} {mk : MethodId} {a : Array Value} (h : kx_K D cI cQ cJ U) : kx_K D cI cQ cJ (U.calling g mk a) := by
  have hv := Vm.Alike.refl U.vm
  obtain ⟨h1, h2, h3, h4, h5, h6, h7⟩ := h
  exact ⟨va_K.moved (u := U) (U := U.calling g mk a) hv h1, va_AO.moved (u := U) (U := U.calling g mk a) hv h2, va_AOA.moved (u := U) (U := U.calling g mk a) hv h3, va_Nw.same rfl rfl h4, va_Nw.same rfl rfl h5, va_Nw.same rfl rfl h6, va_Nw.same rfl rfl h7⟩
def kx_Pre (D : va_G) (cI cQ cJ : ClassId) (h0 : Nat) (e0 : va_E) (sz : Nat) (U : State) : Prop := U.heap.size = sz ∧ va_P D gx_cl [(h0, e0)] U.heap ∧ kx_K D cI cQ cJ U
abbrev kx_C (l : Launch) (D : va_G) (cI cQ cJ : ClassId) (y : MethodName) (cb : ByteArray) (nb : Nat) (rm : Room) (mc ms h0 sz : Nat) (e0 : va_E) (B : State → Prop) : Prop :=
  Met l y (.code y cb nb none :: gtbl) rm (va_Pc [.ref h0] (kx_Pre D cI cQ cJ h0 e0 sz)) (va_Qv (fun _ : Unit => True) (fun _ t => B t) (va_A [(h0, e0)] sz)) mc ms (va_A [(h0, e0)] sz)
theorem kx_one {h0 sz : Nat} {e0 : va_E} : va_D (va_A [(h0, e0)] sz) [(h0, e0)] := by
  refine ⟨fun i j p q hi hj _ => ?_, fun k q hk => va_A.in hk⟩
  have h1 : i < 1 := (List.getElem?_eq_some_iff.mp hi).1
  have h2 : j < 1 := (List.getElem?_eq_some_iff.mp hj).1
  omega
section KX
variable {p : Program} {l : Launch} {e : Env} {R : Room} {s : State} {m : MethodId} {args : Array Value} {below : List Frame} {meth : Method} {c : Code} {H : Heap} {locs : List Loc} {cells slots : Nat} {Q : State → Prop}
variable {cc : ByteArray} {pc : Nat} {ls : Array Slot} {rest : List Value} {D : va_G} {A : Nat → Prop} {ws : va_W} {H0 : Heap} {cI cQ cJ : ClassId}
theorem kw_arr : Cond.arrayClass .int ∈ gtbl := gx_mem 115 (by decide +kernel) (by decide +kernel)
theorem kx_newi (hexec : p.tables.exec = Jvm.exec) (hb : c.code = cc) (hts : ∀ w ∈ gtbl, w.before args s = true) (hK : va_K D gx_cl (kTY cI cQ cJ) s) (hP : va_P D gx_cl ws H) (hD : va_D A ws) (hS : va_S A H0 H locs) (hA : ∀ q, H0.size ≤ q → A q)
    {n : Int32} {N : Nat} (hn : ¬ n < 0) (hN : n.toNatClampNeg = N) (hbytes : N * 4 ≤ 536870912) (hcells : cells + 1 ≤ R.cells) (hslots : slots + N ≤ R.slots) (hdg : decode cc pc = .ok (.newarray .int, 2))
    (kk : ∀ (q : Nat) (H1 : Heap), va_P D gx_cl (ws ++ [(q, .inl (cI, N, .inl (fun _ => 0)))]) H1 → va_D A (ws ++ [(q, .inl (cI, N, .inl (fun _ => 0)))]) → va_S A H0 H1 locs →
      W p l e R s m args below meth c H1 locs (cells + 1) (slots + N) Q (F0 m (pc + 2) ls (.ref q :: rest))) : W p l e R s m args below meth c H locs cells slots Q (F0 m pc ls (.int n :: rest)) := by
  refine va_newa (atype := .int) hexec hb (hts _ kw_arr) (ty := .int) rfl hK hP hD hS hA (a0 := (N, .inl (fun _ => 0))) (fun cA => rfl) hn hN hbytes hcells hslots hdg (fun q cA H1 hK1 hP1 hD1 hS1 => ?_)
  have h1 := va_nm_int (hK1.2 3 (cA, .int) rfl).2
  have h2 := va_nm_int (hK.2 0 (cI, .int) rfl).2
  have e : cA = cI := Option.some.inj (h1.symm.trans h2)
  subst e
  exact kk q H1 hP1 hD1 hS1
theorem kx_newq (hexec : p.tables.exec = Jvm.exec) (hb : c.code = cc) {own : String} {index : Nat} (hown : s.vm.findClass own = some m.cls) (hclink : (Cond.classLink own index RX3).before args s = true) (hover : va_AO RX3 s) (hK : va_K D gx_cl (kTY cI cQ cJ) s) (hP : va_P D gx_cl ws H) (hD : va_D A ws) (hS : va_S A H0 H locs) (hA : ∀ q, H0.size ≤ q → A q)
    {n : Int32} {N : Nat} (hn : ¬ n < 0) (hN : n.toNatClampNeg = N) (hbytes : N * 4 ≤ 536870912) (hcells : cells + 1 ≤ R.cells) (hslots : slots + N ≤ R.slots) (hdg : decode cc pc = .ok (.anewarray index, 3))
    (kk : ∀ (q : Nat) (H1 : Heap), va_P D gx_cl (ws ++ [(q, .inl (cQ, N, .inr (.inr (.inr (.inr (fun _ => none))))))]) H1 → va_D A (ws ++ [(q, .inl (cQ, N, .inr (.inr (.inr (.inr (fun _ => none))))))]) → va_S A H0 H1 locs →
      W p l e R s m args below meth c H1 locs (cells + 1) (slots + N) Q (F0 m (pc + 3) ls (.ref q :: rest))) : W p l e R s m args below meth c H locs cells slots Q (F0 m pc ls (.int n :: rest)) := by
  refine va_newq hexec hb hown hclink hover hK hP hD hS hA hn hN hbytes hcells hslots hdg (fun q cA H1 hK1 hP1 hD1 hS1 => ?_)
  obtain ⟨_, _, _, _, _, h1⟩ := (hK1.2 3 (cA, .object RX3) rfl).2
  obtain ⟨_, _, _, _, _, h2⟩ := (hK.2 1 (cQ, .object RX3) rfl).2
  have e : cA = cQ := Option.some.inj (h1.symm.trans h2)
  subst e
  exact kk q H1 hP1 hD1 hS1
theorem kx_rows8 {r : Nat → Nat} {f : Nat → va_E} {e : va_E} : va_pl ([] ++ (List.range 8).map r) (vr_up f ((List.range 8).map r) e) = [(r 0, e), (r 1, e), (r 2, e), (r 3, e), (r 4, e), (r 5, e), (r 6, e), (r 7, e)] := by
  have hr : ∀ i, i < 8 → vr_up f ((List.range 8).map r) e (r i) = e := fun i hi => vr_up_in (List.mem_map.mpr ⟨i, List.mem_range.mpr hi, rfl⟩)
  show [(r 0, vr_up f ((List.range 8).map r) e (r 0)), (r 1, vr_up f ((List.range 8).map r) e (r 1)), (r 2, vr_up f ((List.range 8).map r) e (r 2)), (r 3, vr_up f ((List.range 8).map r) e (r 3)), (r 4, vr_up f ((List.range 8).map r) e (r 4)), (r 5, vr_up f ((List.range 8).map r) e (r 5)), (r 6, vr_up f ((List.range 8).map r) e (r 6)), (r 7, vr_up f ((List.range 8).map r) e (r 7))] = _
  rw [hr 0 (by decide), hr 1 (by decide), hr 2 (by decide), hr 3 (by decide), hr 4 (by decide), hr 5 (by decide), hr 6 (by decide), hr 7 (by decide)]
theorem kx_mna (hexec : p.tables.exec = Jvm.exec) (hb : c.code = cc) {own : String} {index : Nat} (hown : s.vm.findClass own = some m.cls) (hclink : (Cond.classLink own index ("[" ++ (FieldType.array .int).toString)).before args s = true) (hover : va_AOA .int s) (hts : ∀ w ∈ gtbl, w.before args s = true) (hK : va_K D gx_cl (kTY cI cQ cJ) s) (hP : va_P D gx_cl ws H) (hD : va_D A ws) (hS : va_S A H0 H locs) (hA : ∀ q, H0.size ≤ q → A q)
    {n k : Int32} (hn : ¬ n < 0) (hk : ¬ k < 0) (hN : n.toNatClampNeg = 8) (hM : k.toNatClampNeg = 20) (hcells : cells + (1 + 8) ≤ R.cells) (hslots : slots + (8 + 8 * 20) ≤ R.slots) (hdg : decode cc pc = .ok (.multianewarray index 2, 4))
    (kk : ∀ (q : Nat) (r : Nat → Nat) (H1 : Heap), va_P D gx_cl (ws ++ [(q, .inl (cJ, 8, .inr (.inr (.inr (.inr (fun i => if i < 8 then some (r i) else none)))))), (r 0, .inl (cI, 20, .inl (fun _ => 0))), (r 1, .inl (cI, 20, .inl (fun _ => 0))), (r 2, .inl (cI, 20, .inl (fun _ => 0))), (r 3, .inl (cI, 20, .inl (fun _ => 0))), (r 4, .inl (cI, 20, .inl (fun _ => 0))), (r 5, .inl (cI, 20, .inl (fun _ => 0))), (r 6, .inl (cI, 20, .inl (fun _ => 0))), (r 7, .inl (cI, 20, .inl (fun _ => 0)))]) H1 →
      va_D A (ws ++ [(q, .inl (cJ, 8, .inr (.inr (.inr (.inr (fun i => if i < 8 then some (r i) else none)))))), (r 0, .inl (cI, 20, .inl (fun _ => 0))), (r 1, .inl (cI, 20, .inl (fun _ => 0))), (r 2, .inl (cI, 20, .inl (fun _ => 0))), (r 3, .inl (cI, 20, .inl (fun _ => 0))), (r 4, .inl (cI, 20, .inl (fun _ => 0))), (r 5, .inl (cI, 20, .inl (fun _ => 0))), (r 6, .inl (cI, 20, .inl (fun _ => 0))), (r 7, .inl (cI, 20, .inl (fun _ => 0)))]) → va_S A H0 H1 locs →
      W p l e R s m args below meth c H1 locs (cells + 9) (slots + 168) Q (F0 m (pc + 4) ls (.ref q :: rest))) : W p l e R s m args below meth c H locs cells slots Q (F0 m pc ls (.int k :: .int n :: rest)) := by
  have h2 := va_nm_int (hK.2 0 (cI, .int) rfl).2
  refine va_mna (X := ws) (L := []) (f := fun _ => .inl (cI, 0, .inl (fun _ => 0))) (cy := cI) (ty := .int) (z := (20, .inl (fun _ => 0))) hexec hb hown hclink hover (hts _ kw_arr) h2 hK (by rw [show va_pl [] (fun _ => (Sum.inl (cI, 0, Sum.inl (fun _ => 0)) : va_E)) = [] from rfl, List.append_nil]; exact hP) (by rw [show va_pl [] (fun _ => (Sum.inl (cI, 0, Sum.inl (fun _ => 0)) : va_E)) = [] from rfl, List.append_nil]; exact hD) hS hA hn hk hN hM (by decide) (by decide) (by decide) rfl rfl hcells hslots (fun c => arrV_new c 20 (.int 0)) hdg (fun q r cA H1 _ _ hK1 hP1 hD1 hS1 => ?_)
  have h3 : s.vm.findClass ("[" ++ (FieldType.array .int).toString) = some cA := (hK1.2 3 (cA, .array .int) rfl).2
  have h4 : s.vm.findClass ("[" ++ (FieldType.array .int).toString) = some cJ := (hK.2 2 (cJ, .array .int) rfl).2
  have e : cA = cJ := Option.some.inj (h3.symm.trans h4)
  subst e
  rw [kx_rows8, List.append_assoc] at hP1 hD1
  exact kk q r H1 hP1 hD1 hS1
end KX

theorem kw_oI : Cond.instanceMethod objectInit ∈ gtbl := gx_mem 59 (by decide +kernel) (by decide +kernel)
theorem kw_oC : Cond.code objectInit ⟨#[0xb1]⟩ 1 none ∈ gtbl := gx_mem 60 (by decide +kernel) (by decide +kernel)
theorem kw_oX0 : Cond.methodLink RX0 3 objectInit ∈ gtbl := gx_mem 226 (by decide +kernel) (by decide +kernel)
theorem kw_cX0 : Cond.code yX0_init cX0_init 1 none ∈ gtbl := gx_mem 225 (by decide +kernel) (by decide +kernel)
theorem kw_iX0 : Cond.instanceMethod yX0_init ∈ gtbl := gx_mem 224 (by decide +kernel) (by decide +kernel)
theorem kw_nX0 : Cond.instantiable RX0 6 ∈ gtbl := gx_mem 222 (by decide +kernel) (by decide +kernel)
theorem kw_zX0 : Cond.initialized RX0 ∈ gtbl := gx_mem 49 (by decide +kernel) (by decide +kernel)
theorem kw_oX1 : Cond.methodLink RX1 3 objectInit ∈ gtbl := gx_mem 127 (by decide +kernel) (by decide +kernel)
theorem kw_cX1 : Cond.code yX1_init cX1_init 1 none ∈ gtbl := gx_mem 126 (by decide +kernel) (by decide +kernel)
theorem kw_iX1 : Cond.instanceMethod yX1_init ∈ gtbl := gx_mem 125 (by decide +kernel) (by decide +kernel)
theorem kw_nX1 : Cond.instantiable RX1 3 ∈ gtbl := gx_mem 123 (by decide +kernel) (by decide +kernel)
theorem kw_zX1 : Cond.initialized RX1 ∈ gtbl := gx_mem 47 (by decide +kernel) (by decide +kernel)
theorem kw_oX2 : Cond.methodLink RX2 3 objectInit ∈ gtbl := gx_mem 66 (by decide +kernel) (by decide +kernel)
theorem kw_cX2 : Cond.code yX2_init cX2_init 1 none ∈ gtbl := gx_mem 65 (by decide +kernel) (by decide +kernel)
theorem kw_iX2 : Cond.instanceMethod yX2_init ∈ gtbl := gx_mem 64 (by decide +kernel) (by decide +kernel)
theorem kw_nX2 : Cond.instantiable RX2 10 ∈ gtbl := gx_mem 62 (by decide +kernel) (by decide +kernel)
theorem kw_zX2 : Cond.initialized RX2 ∈ gtbl := gx_mem 45 (by decide +kernel) (by decide +kernel)
theorem kw_oX3 : Cond.methodLink RX3 3 objectInit ∈ gtbl := gx_mem 163 (by decide +kernel) (by decide +kernel)
theorem kw_cX3 : Cond.code yX3_init cX3_init 1 none ∈ gtbl := gx_mem 162 (by decide +kernel) (by decide +kernel)
theorem kw_iX3 : Cond.instanceMethod yX3_init ∈ gtbl := gx_mem 161 (by decide +kernel) (by decide +kernel)
theorem kw_nX3 : Cond.instantiable RX3 9 ∈ gtbl := gx_mem 159 (by decide +kernel) (by decide +kernel)
theorem kw_zX3 : Cond.initialized RX3 ∈ gtbl := gx_mem 48 (by decide +kernel) (by decide +kernel)
theorem kw_oX4 : Cond.methodLink RX4 3 objectInit ∈ gtbl := gx_mem 121 (by decide +kernel) (by decide +kernel)
theorem kw_cX4 : Cond.code yX4_init cX4_init 2 none ∈ gtbl := gx_mem 120 (by decide +kernel) (by decide +kernel)
theorem kw_iX4 : Cond.instanceMethod yX4_init ∈ gtbl := gx_mem 119 (by decide +kernel) (by decide +kernel)
theorem kw_nX4 : Cond.instantiable RX4 5 ∈ gtbl := gx_mem 117 (by decide +kernel) (by decide +kernel)
theorem kw_zX4 : Cond.initialized RX4 ∈ gtbl := gx_mem 46 (by decide +kernel) (by decide +kernel)
theorem kw_oX5 : Cond.methodLink RX5 1 objectInit ∈ gtbl := gx_mem 58 (by decide +kernel) (by decide +kernel)
theorem kw_cX5 : Cond.code yX5_init cX5_init 1 none ∈ gtbl := gx_mem 57 (by decide +kernel) (by decide +kernel)
theorem kw_iX5 : Cond.instanceMethod yX5_init ∈ gtbl := gx_mem 56 (by decide +kernel) (by decide +kernel)
theorem kw_nX5 : Cond.instantiable RX5 6 ∈ gtbl := gx_mem 54 (by decide +kernel) (by decide +kernel)
theorem kw_zX5 : Cond.initialized RX5 ∈ gtbl := gx_mem 44 (by decide +kernel) (by decide +kernel)
theorem kw_oX6 : Cond.methodLink RX6 1 objectInit ∈ gtbl := gx_mem 567 (by decide +kernel) (by decide +kernel)
theorem kw_cX6 : Cond.code yX6_init cX6_init 1 none ∈ gtbl := gx_mem 566 (by decide +kernel) (by decide +kernel)
theorem kw_iX6 : Cond.instanceMethod yX6_init ∈ gtbl := gx_mem 565 (by decide +kernel) (by decide +kernel)
theorem kw_nX6 : Cond.instantiable RX6 18 ∈ gtbl := gx_mem 563 (by decide +kernel) (by decide +kernel)
theorem kw_zX6 : Cond.initialized RX6 ∈ gtbl := gx_mem 50 (by decide +kernel) (by decide +kernel)
theorem kf_X0 : ∀ j, j < 6 → defaultValue (tyX0 j) = vp_V [.null, .null, .int 0, .int 0, .int 0, .int 0] j := fun j hj => by rcases (show j = 0 ∨ j = 1 ∨ j = 2 ∨ j = 3 ∨ j = 4 ∨ j = 5 by omega) with rfl | rfl | rfl | rfl | rfl | rfl <;> rfl
theorem kf_X1 : ∀ j, j < 3 → defaultValue (tyX1 j) = vp_V [.null, .null, .int 0] j := fun j hj => by rcases (show j = 0 ∨ j = 1 ∨ j = 2 by omega) with rfl | rfl | rfl <;> rfl
theorem kf_X2 : ∀ j, j < 10 → defaultValue (tyX2 j) = vp_V [.int 0, .int 0, .int 0, .int 0, .int 0, .int 0, .null, .null, .null, .null] j := fun j hj => by rcases (show j = 0 ∨ j = 1 ∨ j = 2 ∨ j = 3 ∨ j = 4 ∨ j = 5 ∨ j = 6 ∨ j = 7 ∨ j = 8 ∨ j = 9 by omega) with rfl | rfl | rfl | rfl | rfl | rfl | rfl | rfl | rfl | rfl <;> rfl
theorem kf_X3 : ∀ j, j < 9 → defaultValue (tyX3 j) = vp_V [.null, .int 0, .int 0, .int 0, .int 0, .int 0, .int 0, .int 0, .int 0] j := fun j hj => by rcases (show j = 0 ∨ j = 1 ∨ j = 2 ∨ j = 3 ∨ j = 4 ∨ j = 5 ∨ j = 6 ∨ j = 7 ∨ j = 8 by omega) with rfl | rfl | rfl | rfl | rfl | rfl | rfl | rfl | rfl <;> rfl
theorem kf_X4 : ∀ j, j < 5 → defaultValue (tyX4 j) = vp_V [.null, .null, .null, .int 0, .null] j := fun j hj => by rcases (show j = 0 ∨ j = 1 ∨ j = 2 ∨ j = 3 ∨ j = 4 by omega) with rfl | rfl | rfl | rfl | rfl <;> rfl
theorem kf_X5 : ∀ j, j < 6 → defaultValue (tyX5 j) = vp_V [.null, .null, .int 0, .null, .null, .null] j := fun j hj => by rcases (show j = 0 ∨ j = 1 ∨ j = 2 ∨ j = 3 ∨ j = 4 ∨ j = 5 by omega) with rfl | rfl | rfl | rfl | rfl | rfl <;> rfl
theorem kf_X6 : ∀ j, j < 18 → defaultValue (tyX6 j) = vp_V [.null, .null, .int 0, .null, .null, .null, .null, .null, .null, .null, .int 0, .null, .null, .int 0, .null, .null, .null, .int 0] j := fun j hj => by rcases (show j = 0 ∨ j = 1 ∨ j = 2 ∨ j = 3 ∨ j = 4 ∨ j = 5 ∨ j = 6 ∨ j = 7 ∨ j = 8 ∨ j = 9 ∨ j = 10 ∨ j = 11 ∨ j = 12 ∨ j = 13 ∨ j = 14 ∨ j = 15 ∨ j = 16 ∨ j = 17 by omega) with rfl | rfl | rfl | rfl | rfl | rfl | rfl | rfl | rfl | rfl | rfl | rfl | rfl | rfl | rfl | rfl | rfl | rfl <;> rfl
theorem kl_X0_9 : Cond.fieldLink RX0 9 "BassButtons$Bellows" "uses" "[I" ∈ gtbl := gx_mem 227 (by decide +kernel) (by decide +kernel)
theorem kl_X0_15 : Cond.fieldLink RX0 15 "BassButtons$Bellows" "marks" "[I" ∈ gtbl := gx_mem 229 (by decide +kernel) (by decide +kernel)
theorem kl_X0_18 : Cond.fieldLink RX0 18 "BassButtons$Bellows" "beats" "I" ∈ gtbl := gx_mem 230 (by decide +kernel) (by decide +kernel)
theorem kl_X0_22 : Cond.fieldLink RX0 22 "BassButtons$Bellows" "way" "I" ∈ gtbl := gx_mem 231 (by decide +kernel) (by decide +kernel)
theorem kl_X0_25 : Cond.fieldLink RX0 25 "BassButtons$Bellows" "price" "I" ∈ gtbl := gx_mem 233 (by decide +kernel) (by decide +kernel)
theorem kl_X0_28 : Cond.fieldLink RX0 28 "BassButtons$Bellows" "leastRoom" "I" ∈ gtbl := gx_mem 235 (by decide +kernel) (by decide +kernel)
theorem kl_X1_9 : Cond.fieldLink RX1 9 "BassButtons$Board" "notes" "[I" ∈ gtbl := gx_mem 128 (by decide +kernel) (by decide +kernel)
theorem kl_X1_15 : Cond.fieldLink RX1 15 "BassButtons$Board" "chordButtons" "[I" ∈ gtbl := gx_mem 132 (by decide +kernel) (by decide +kernel)
theorem kl_X1_18 : Cond.fieldLink RX1 18 "BassButtons$Board" "chordCount" "I" ∈ gtbl := gx_mem 134 (by decide +kernel) (by decide +kernel)
theorem kl_X2_9 : Cond.fieldLink RX2 9 "BassButtons$Desk" "base" "I" ∈ gtbl := gx_mem 67 (by decide +kernel) (by decide +kernel)
theorem kl_X2_15 : Cond.fieldLink RX2 15 "BassButtons$Desk" "rows" "I" ∈ gtbl := gx_mem 69 (by decide +kernel) (by decide +kernel)
theorem kl_X2_18 : Cond.fieldLink RX2 18 "BassButtons$Desk" "register" "I" ∈ gtbl := gx_mem 71 (by decide +kernel) (by decide +kernel)
theorem kl_X2_21 : Cond.fieldLink RX2 21 "BassButtons$Desk" "room" "I" ∈ gtbl := gx_mem 74 (by decide +kernel) (by decide +kernel)
theorem kl_X2_24 : Cond.fieldLink RX2 24 "BassButtons$Desk" "start" "I" ∈ gtbl := gx_mem 76 (by decide +kernel) (by decide +kernel)
theorem kl_X2_27 : Cond.fieldLink RX2 27 "BassButtons$Desk" "beats" "I" ∈ gtbl := gx_mem 78 (by decide +kernel) (by decide +kernel)
theorem kl_X2_30 : Cond.fieldLink RX2 30 "BassButtons$Desk" "chords" "[I" ∈ gtbl := gx_mem 82 (by decide +kernel) (by decide +kernel)
theorem kl_X2_34 : Cond.fieldLink RX2 34 "BassButtons$Desk" "lows" "[I" ∈ gtbl := gx_mem 85 (by decide +kernel) (by decide +kernel)
theorem kl_X2_37 : Cond.fieldLink RX2 37 "BassButtons$Desk" "lengths" "[I" ∈ gtbl := gx_mem 88 (by decide +kernel) (by decide +kernel)
theorem kl_X2_40 : Cond.fieldLink RX2 40 "BassButtons$Desk" "marks" "[I" ∈ gtbl := gx_mem 91 (by decide +kernel) (by decide +kernel)
theorem kl_X3_9 : Cond.fieldLink RX3 9 "BassButtons$Goods" "codes" "[I" ∈ gtbl := gx_mem 164 (by decide +kernel) (by decide +kernel)
theorem kl_X3_15 : Cond.fieldLink RX3 15 "BassButtons$Goods" "count" "I" ∈ gtbl := gx_mem 166 (by decide +kernel) (by decide +kernel)
theorem kl_X3_19 : Cond.fieldLink RX3 19 "BassButtons$Goods" "size" "I" ∈ gtbl := gx_mem 169 (by decide +kernel) (by decide +kernel)
theorem kl_X3_22 : Cond.fieldLink RX3 22 "BassButtons$Goods" "lack" "I" ∈ gtbl := gx_mem 172 (by decide +kernel) (by decide +kernel)
theorem kl_X3_25 : Cond.fieldLink RX3 25 "BassButtons$Goods" "extra" "I" ∈ gtbl := gx_mem 175 (by decide +kernel) (by decide +kernel)
theorem kl_X3_28 : Cond.fieldLink RX3 28 "BassButtons$Goods" "wanted" "I" ∈ gtbl := gx_mem 178 (by decide +kernel) (by decide +kernel)
theorem kl_X3_31 : Cond.fieldLink RX3 31 "BassButtons$Goods" "counterButton" "I" ∈ gtbl := gx_mem 179 (by decide +kernel) (by decide +kernel)
theorem kl_X3_34 : Cond.fieldLink RX3 34 "BassButtons$Goods" "bassButton" "I" ∈ gtbl := gx_mem 180 (by decide +kernel) (by decide +kernel)
theorem kl_X3_37 : Cond.fieldLink RX3 37 "BassButtons$Goods" "bestRank" "I" ∈ gtbl := gx_mem 181 (by decide +kernel) (by decide +kernel)
theorem kn_X4_9 : Cond.classLink RX4 9 RX1 ∈ gtbl := gx_mem 122 (by decide +kernel) (by decide +kernel)
theorem kl_X4_12 : Cond.fieldLink RX4 12 "BassButtons$Hand" "board" "LBassButtons$Board;" ∈ gtbl := gx_mem 201 (by decide +kernel) (by decide +kernel)
theorem kn_X4_18 : Cond.classLink RX4 18 RX3 ∈ gtbl := gx_mem 143 (by decide +kernel) (by decide +kernel)
theorem kl_X4_20 : Cond.fieldLink RX4 20 "BassButtons$Hand" "goods" "[LBassButtons$Goods;" ∈ gtbl := gx_mem 203 (by decide +kernel) (by decide +kernel)
theorem kl_X4_24 : Cond.fieldLink RX4 24 "BassButtons$Hand" "chosen" "[I" ∈ gtbl := gx_mem 205 (by decide +kernel) (by decide +kernel)
theorem kl_X4_28 : Cond.fieldLink RX4 28 "BassButtons$Hand" "jumped" "I" ∈ gtbl := gx_mem 207 (by decide +kernel) (by decide +kernel)
theorem kl_X4_34 : Cond.fieldLink RX4 34 "BassButtons$Hand" "jumpsToCome" "[[I" ∈ gtbl := gx_mem 209 (by decide +kernel) (by decide +kernel)
theorem kn_X5_7 : Cond.classLink RX5 7 RX2 ∈ gtbl := gx_mem 61 (by decide +kernel) (by decide +kernel)
theorem kl_X5_10 : Cond.fieldLink RX5 10 "BassButtons" "desk" "LBassButtons$Desk;" ∈ gtbl := gx_mem 250 (by decide +kernel) (by decide +kernel)
theorem kl_X5_16 : Cond.fieldLink RX5 16 "BassButtons" "keptDesk" "LBassButtons$Desk;" ∈ gtbl := gx_mem 251 (by decide +kernel) (by decide +kernel)
theorem kl_X5_19 : Cond.fieldLink RX5 19 "BassButtons" "isKept" "Z" ∈ gtbl := gx_mem 252 (by decide +kernel) (by decide +kernel)
theorem kn_X5_23 : Cond.classLink RX5 23 RX4 ∈ gtbl := gx_mem 116 (by decide +kernel) (by decide +kernel)
theorem kl_X5_26 : Cond.fieldLink RX5 26 "BassButtons" "playing" "LBassButtons$Hand;" ∈ gtbl := gx_mem 253 (by decide +kernel) (by decide +kernel)
theorem kl_X5_30 : Cond.fieldLink RX5 30 "BassButtons" "supposed" "LBassButtons$Hand;" ∈ gtbl := gx_mem 254 (by decide +kernel) (by decide +kernel)
theorem kn_X5_33 : Cond.classLink RX5 33 RX0 ∈ gtbl := gx_mem 221 (by decide +kernel) (by decide +kernel)
theorem kl_X5_36 : Cond.fieldLink RX5 36 "BassButtons" "pumping" "LBassButtons$Bellows;" ∈ gtbl := gx_mem 255 (by decide +kernel) (by decide +kernel)
theorem kl_X6_7 : Cond.fieldLink RX6 7 "BassButtonsModel" "numbers" "[I" ∈ gtbl := gx_mem 568 (by decide +kernel) (by decide +kernel)
theorem kl_X6_13 : Cond.fieldLink RX6 13 "BassButtonsModel" "beats" "[I" ∈ gtbl := gx_mem 569 (by decide +kernel) (by decide +kernel)
theorem kl_X6_16 : Cond.fieldLink RX6 16 "BassButtonsModel" "kept" "[I" ∈ gtbl := gx_mem 571 (by decide +kernel) (by decide +kernel)
theorem kl_X6_19 : Cond.fieldLink RX6 19 "BassButtonsModel" "lacks" "[I" ∈ gtbl := gx_mem 572 (by decide +kernel) (by decide +kernel)
theorem kl_X6_22 : Cond.fieldLink RX6 22 "BassButtonsModel" "extras" "[I" ∈ gtbl := gx_mem 573 (by decide +kernel) (by decide +kernel)
theorem kl_X6_25 : Cond.fieldLink RX6 25 "BassButtonsModel" "sizes" "[I" ∈ gtbl := gx_mem 574 (by decide +kernel) (by decide +kernel)
theorem kl_X6_28 : Cond.fieldLink RX6 28 "BassButtonsModel" "goodMany" "[I" ∈ gtbl := gx_mem 575 (by decide +kernel) (by decide +kernel)
theorem kl_X6_31 : Cond.fieldLink RX6 31 "BassButtonsModel" "goods" "[I" ∈ gtbl := gx_mem 576 (by decide +kernel) (by decide +kernel)
theorem kl_X6_34 : Cond.fieldLink RX6 34 "BassButtonsModel" "tried" "[I" ∈ gtbl := gx_mem 577 (by decide +kernel) (by decide +kernel)
theorem kl_X6_37 : Cond.fieldLink RX6 37 "BassButtonsModel" "fewest" "[I" ∈ gtbl := gx_mem 579 (by decide +kernel) (by decide +kernel)
theorem kl_X6_40 : Cond.fieldLink RX6 40 "BassButtonsModel" "hand" "[I" ∈ gtbl := gx_mem 580 (by decide +kernel) (by decide +kernel)
theorem kl_X6_43 : Cond.fieldLink RX6 43 "BassButtonsModel" "before" "[I" ∈ gtbl := gx_mem 582 (by decide +kernel) (by decide +kernel)
theorem kl_X6_46 : Cond.fieldLink RX6 46 "BassButtonsModel" "uses" "[I" ∈ gtbl := gx_mem 583 (by decide +kernel) (by decide +kernel)
theorem kl_X6_49 : Cond.fieldLink RX6 49 "BassButtonsModel" "marked" "[I" ∈ gtbl := gx_mem 584 (by decide +kernel) (by decide +kernel)
theorem kn_X4_32 : Cond.classLink RX4 32 ("[" ++ (FieldType.array .int).toString) ∈ gtbl := gx_mem 145 (by decide +kernel) (by decide +kernel)
abbrev rk_X0 : Room := { frames := 1, cells := 2, slots := 16, locals := 40 }
abbrev rk_X1 : Room := { frames := 1, cells := 2, slots := 120, locals := 40 }
abbrev rk_X2 : Room := { frames := 1, cells := 4, slots := 32, locals := 40 }
abbrev rk_X3 : Room := { frames := 1, cells := 1, slots := 20, locals := 40 }
abbrev rk_X4 : Room := { frames := 3, cells := 30, slots := 539, locals := 100 }
abbrev rk_X6 : Room := { frames := 1, cells := 14, slots := 795, locals := 40 }
set_option maxHeartbeats 4000000 in
set_option maxRecDepth 100000 in
theorem k_X0 (l : Launch) (D : va_G) (cI cQ cJ : ClassId) (h0 sz : Nat) : kx_C l D cI cQ cJ yX0_init cX0_init 1 rk_X0 2 16 h0 sz (.inr (0, [.null, .null, .int 0, .int 0, .int 0, .int 0])) (fun t => ∃ a0 a1 : Nat, va_P D gx_cl [(h0, .inr (0, [.ref a0, .ref a1, .int (zI 0), .int (zI 0), .int (zI 0), .int (zI 1)])), (a0, .inl (cI, 8, .inl (fun _ => 0))), (a1, .inl (cI, 8, .inl (fun _ => 0)))] t.heap ∧ va_D (va_A [(h0, .inr (0, [.null, .null, .int 0, .int 0, .int 0, .int 0]))] sz) [(h0, .inr (0, [.ref a0, .ref a1, .int (zI 0), .int (zI 0), .int (zI 0), .int (zI 1)])), (a0, .inl (cI, 8, .inl (fun _ => 0))), (a1, .inl (cI, 8, .inl (fun _ => 0)))]) := by
  refine Met.ofW (cc := cX0_init) (maxL := 1) (ret := none) (by decide) rfl ?_
  intro p e s m args below meth c s₁ B hml hv
  obtain ⟨rfl, hsz, hP, hKK⟩ := hv
  have hK := hKK.1
  have hx := B.exec
  have hb := B.bytes
  have hr := B.returns
  have hts0 := atoms_spec (ws := .code yX0_init cX0_init 1 none :: gtbl) B.pre
  have hts : ∀ w ∈ gtbl, w.before ([Value.ref h0] : List Value).toArray s = true := fun w hw => hts0 w (List.mem_cons_of_mem _ hw)
  have hown : s.vm.findClass RX0 = some m.cls := findClass_of_methodNamed B.named
  have hin : meth.name = "<init>" := (name_of_methodNamed B.named B.method).1
  subst hsz
  have hD : va_D (va_A [(h0, .inr (0, [.null, .null, .int 0, .int 0, .int 0, .int 0]))] s.heap.size) [(h0, .inr (0, [.null, .null, .int 0, .int 0, .int 0, .int 0]))] := kx_one
  generalize hAe : va_A [(h0, .inr (0, [.null, .null, .int 0, .int 0, .int 0, .int 0]))] s.heap.size = A at hD ⊢
  have hA : ∀ q : Nat, s.heap.size ≤ q → A q := fun q h => by rw [← hAe]; exact Or.inr h
  have hS : va_S A s.heap s.heap [] := va_S.rf
  have hl := lv_entry ([.ref h0]) (n := 1) (Nat.le_of_ble_eq_true rfl)
  rw [lg_entry_eq]
  generalize (lg_sl ([.ref h0]) ++ List.replicate (1 - (lg_sl ([.ref h0])).length) Slot.unset).toArray = ls at hl ⊢
  have hl : lv_has ls 1 [(0, .ref h0)] := hl
  refine lv_aload_n hx hb dX0_init_0 rfl (lv_at hl 0 rfl) ?_
  refine W.objInit hx hb hown (hts _ kw_oX0) (hts _ kw_oI) (hts _ kw_oC) rfl (by rw [hml]; exact hl.1) rfl dX0_init_1 (Nat.le_of_ble_eq_true rfl) (Nat.le_of_ble_eq_true rfl) ?_
  refine W.eq (g2 := F0 m 4 ls []) rfl ?_
  refine lv_aload_n hx hb dX0_init_4 rfl (lv_at hl 0 rfl) ?_
  refine lv_bipush (v := (zI 8)) hx hb dX0_init_5 (by decide) ?_
  refine kx_newi (N := 8) hx hb hts hK hP hD hS hA (by decide) (by decide) (by decide) (by decide) (by decide) dX0_init_7 (fun q1 H hP hD hS => ?_)
  have hP : va_P D gx_cl [(h0, .inr (0, [.null, .null, .int 0, .int 0, .int 0, .int 0])), (q1, .inl (cI, 8, .inl (fun _ => 0)))] H := hP
  have hD : va_D A [(h0, .inr (0, [.null, .null, .int 0, .int 0, .int 0, .int 0])), (q1, .inl (cI, 8, .inl (fun _ => 0)))] := hD
  refine W.widen (k := 1) (n := 8) (by decide) (by decide) ?_
  refine va_putF (ci := 0) (C := RX0) (T := TX0) (N := 6) hx hb hts inG0 tyX0 tyX0_ok nmX0 hown hK hP hD hS 0 rfl rfl 0 (by decide) (hts _ kl_X0_9) (fun _ h9 => h9) rfl hin rfl (tyX0_ok 0 (by decide)) rfl rfl (Nat.le_of_ble_eq_true rfl) dX0_init_9 (fun H locs hP hD hS => ?_)
  have hP : va_P D gx_cl [(h0, .inr (0, [.ref q1, .null, .int 0, .int 0, .int 0, .int 0])), (q1, .inl (cI, 8, .inl (fun _ => 0)))] H := hP
  have hD : va_D A [(h0, .inr (0, [.ref q1, .null, .int 0, .int 0, .int 0, .int 0])), (q1, .inl (cI, 8, .inl (fun _ => 0)))] := hD
  refine lv_aload_n hx hb dX0_init_12 rfl (lv_at hl 0 rfl) ?_
  refine lv_bipush (v := (zI 8)) hx hb dX0_init_13 (by decide) ?_
  refine kx_newi (N := 8) hx hb hts hK hP hD hS hA (by decide) (by decide) (by decide) (by decide) (by decide) dX0_init_15 (fun q2 H hP hD hS => ?_)
  have hP : va_P D gx_cl [(h0, .inr (0, [.ref q1, .null, .int 0, .int 0, .int 0, .int 0])), (q1, .inl (cI, 8, .inl (fun _ => 0))), (q2, .inl (cI, 8, .inl (fun _ => 0)))] H := hP
  have hD : va_D A [(h0, .inr (0, [.ref q1, .null, .int 0, .int 0, .int 0, .int 0])), (q1, .inl (cI, 8, .inl (fun _ => 0))), (q2, .inl (cI, 8, .inl (fun _ => 0)))] := hD
  refine W.widen (k := 2) (n := 16) (by decide) (by decide) ?_
  refine va_putF (ci := 0) (C := RX0) (T := TX0) (N := 6) hx hb hts inG0 tyX0 tyX0_ok nmX0 hown hK hP hD hS 0 rfl rfl 1 (by decide) (hts _ kl_X0_15) (fun _ h9 => h9) rfl hin rfl (tyX0_ok 1 (by decide)) rfl rfl (Nat.le_of_ble_eq_true rfl) dX0_init_17 (fun H locs hP hD hS => ?_)
  have hP : va_P D gx_cl [(h0, .inr (0, [.ref q1, .ref q2, .int 0, .int 0, .int 0, .int 0])), (q1, .inl (cI, 8, .inl (fun _ => 0))), (q2, .inl (cI, 8, .inl (fun _ => 0)))] H := hP
  have hD : va_D A [(h0, .inr (0, [.ref q1, .ref q2, .int 0, .int 0, .int 0, .int 0])), (q1, .inl (cI, 8, .inl (fun _ => 0))), (q2, .inl (cI, 8, .inl (fun _ => 0)))] := hD
  refine lv_aload_n hx hb dX0_init_20 rfl (lv_at hl 0 rfl) ?_
  refine lv_iconst (v := (zI 0)) hx hb dX0_init_21 (by decide) ?_
  refine va_put (ci := 0) (C := RX0) (T := TX0) (N := 6) hx hb hts inG0 tyX0 tyX0_ok nmX0 hown hK hP hD hS 0 rfl rfl 2 (by decide) (hts _ kl_X0_18) (fun _ h9 => h9) rfl (tyX0_ok 2 (by decide)) rfl rfl (Nat.le_of_ble_eq_true rfl) dX0_init_22 (fun H locs hP hD hS => ?_)
  have hP : va_P D gx_cl [(h0, .inr (0, [.ref q1, .ref q2, .int (zI 0), .int 0, .int 0, .int 0])), (q1, .inl (cI, 8, .inl (fun _ => 0))), (q2, .inl (cI, 8, .inl (fun _ => 0)))] H := hP
  have hD : va_D A [(h0, .inr (0, [.ref q1, .ref q2, .int (zI 0), .int 0, .int 0, .int 0])), (q1, .inl (cI, 8, .inl (fun _ => 0))), (q2, .inl (cI, 8, .inl (fun _ => 0)))] := hD
  refine lv_aload_n hx hb dX0_init_25 rfl (lv_at hl 0 rfl) ?_
  refine lv_iconst (v := (zI 0)) hx hb dX0_init_26 (by decide) ?_
  refine va_put (ci := 0) (C := RX0) (T := TX0) (N := 6) hx hb hts inG0 tyX0 tyX0_ok nmX0 hown hK hP hD hS 0 rfl rfl 3 (by decide) (hts _ kl_X0_22) (fun _ h9 => h9) rfl (tyX0_ok 3 (by decide)) rfl rfl (Nat.le_of_ble_eq_true rfl) dX0_init_27 (fun H locs hP hD hS => ?_)
  have hP : va_P D gx_cl [(h0, .inr (0, [.ref q1, .ref q2, .int (zI 0), .int (zI 0), .int 0, .int 0])), (q1, .inl (cI, 8, .inl (fun _ => 0))), (q2, .inl (cI, 8, .inl (fun _ => 0)))] H := hP
  have hD : va_D A [(h0, .inr (0, [.ref q1, .ref q2, .int (zI 0), .int (zI 0), .int 0, .int 0])), (q1, .inl (cI, 8, .inl (fun _ => 0))), (q2, .inl (cI, 8, .inl (fun _ => 0)))] := hD
  refine lv_aload_n hx hb dX0_init_30 rfl (lv_at hl 0 rfl) ?_
  refine lv_iconst (v := (zI 0)) hx hb dX0_init_31 (by decide) ?_
  refine va_put (ci := 0) (C := RX0) (T := TX0) (N := 6) hx hb hts inG0 tyX0 tyX0_ok nmX0 hown hK hP hD hS 0 rfl rfl 4 (by decide) (hts _ kl_X0_25) (fun _ h9 => h9) rfl (tyX0_ok 4 (by decide)) rfl rfl (Nat.le_of_ble_eq_true rfl) dX0_init_32 (fun H locs hP hD hS => ?_)
  have hP : va_P D gx_cl [(h0, .inr (0, [.ref q1, .ref q2, .int (zI 0), .int (zI 0), .int (zI 0), .int 0])), (q1, .inl (cI, 8, .inl (fun _ => 0))), (q2, .inl (cI, 8, .inl (fun _ => 0)))] H := hP
  have hD : va_D A [(h0, .inr (0, [.ref q1, .ref q2, .int (zI 0), .int (zI 0), .int (zI 0), .int 0])), (q1, .inl (cI, 8, .inl (fun _ => 0))), (q2, .inl (cI, 8, .inl (fun _ => 0)))] := hD
  refine lv_aload_n hx hb dX0_init_35 rfl (lv_at hl 0 rfl) ?_
  refine lv_iconst (v := (zI 1)) hx hb dX0_init_36 (by decide) ?_
  refine va_put (ci := 0) (C := RX0) (T := TX0) (N := 6) hx hb hts inG0 tyX0 tyX0_ok nmX0 hown hK hP hD hS 0 rfl rfl 5 (by decide) (hts _ kl_X0_28) (fun _ h9 => h9) rfl (tyX0_ok 5 (by decide)) rfl rfl (Nat.le_of_ble_eq_true rfl) dX0_init_37 (fun H locs hP hD hS => ?_)
  have hP : va_P D gx_cl [(h0, .inr (0, [.ref q1, .ref q2, .int (zI 0), .int (zI 0), .int (zI 0), .int (zI 1)])), (q1, .inl (cI, 8, .inl (fun _ => 0))), (q2, .inl (cI, 8, .inl (fun _ => 0)))] H := hP
  have hD : va_D A [(h0, .inr (0, [.ref q1, .ref q2, .int (zI 0), .int (zI 0), .int (zI 0), .int (zI 1)])), (q1, .inl (cI, 8, .inl (fun _ => 0))), (q2, .inl (cI, 8, .inl (fun _ => 0)))] := hD
  refine W.widen (k := 2) (n := 16) (by decide) (by decide) ?_
  exact W.vret hx hb hr (fun t ht hW => ⟨⟨(), rfl, trivial, q1, q2, by rw [ht]; exact hP, hD⟩, hS.F ht⟩) hS.2.2 dX0_init_40

set_option maxHeartbeats 4000000 in
set_option maxRecDepth 100000 in
theorem k_X1 (l : Launch) (D : va_G) (cI cQ cJ : ClassId) (h0 sz : Nat) : kx_C l D cI cQ cJ yX1_init cX1_init 1 rk_X1 2 120 h0 sz (.inr (1, [.null, .null, .int 0])) (fun t => ∃ a0 a1 : Nat, va_P D gx_cl [(h0, .inr (1, [.ref a0, .ref a1, .int (zI 0)])), (a0, .inl (cI, 72, .inl (fun _ => 0))), (a1, .inl (cI, 48, .inl (fun _ => 0)))] t.heap ∧ va_D (va_A [(h0, .inr (1, [.null, .null, .int 0]))] sz) [(h0, .inr (1, [.ref a0, .ref a1, .int (zI 0)])), (a0, .inl (cI, 72, .inl (fun _ => 0))), (a1, .inl (cI, 48, .inl (fun _ => 0)))]) := by
  refine Met.ofW (cc := cX1_init) (maxL := 1) (ret := none) (by decide) rfl ?_
  intro p e s m args below meth c s₁ B hml hv
  obtain ⟨rfl, hsz, hP, hKK⟩ := hv
  have hK := hKK.1
  have hx := B.exec
  have hb := B.bytes
  have hr := B.returns
  have hts0 := atoms_spec (ws := .code yX1_init cX1_init 1 none :: gtbl) B.pre
  have hts : ∀ w ∈ gtbl, w.before ([Value.ref h0] : List Value).toArray s = true := fun w hw => hts0 w (List.mem_cons_of_mem _ hw)
  have hown : s.vm.findClass RX1 = some m.cls := findClass_of_methodNamed B.named
  have hin : meth.name = "<init>" := (name_of_methodNamed B.named B.method).1
  subst hsz
  have hD : va_D (va_A [(h0, .inr (1, [.null, .null, .int 0]))] s.heap.size) [(h0, .inr (1, [.null, .null, .int 0]))] := kx_one
  generalize hAe : va_A [(h0, .inr (1, [.null, .null, .int 0]))] s.heap.size = A at hD ⊢
  have hA : ∀ q : Nat, s.heap.size ≤ q → A q := fun q h => by rw [← hAe]; exact Or.inr h
  have hS : va_S A s.heap s.heap [] := va_S.rf
  have hl := lv_entry ([.ref h0]) (n := 1) (Nat.le_of_ble_eq_true rfl)
  rw [lg_entry_eq]
  generalize (lg_sl ([.ref h0]) ++ List.replicate (1 - (lg_sl ([.ref h0])).length) Slot.unset).toArray = ls at hl ⊢
  have hl : lv_has ls 1 [(0, .ref h0)] := hl
  refine lv_aload_n hx hb dX1_init_0 rfl (lv_at hl 0 rfl) ?_
  refine W.objInit hx hb hown (hts _ kw_oX1) (hts _ kw_oI) (hts _ kw_oC) rfl (by rw [hml]; exact hl.1) rfl dX1_init_1 (Nat.le_of_ble_eq_true rfl) (Nat.le_of_ble_eq_true rfl) ?_
  refine W.eq (g2 := F0 m 4 ls []) rfl ?_
  refine lv_aload_n hx hb dX1_init_4 rfl (lv_at hl 0 rfl) ?_
  refine lv_bipush (v := (zI 72)) hx hb dX1_init_5 (by decide) ?_
  refine kx_newi (N := 72) hx hb hts hK hP hD hS hA (by decide) (by decide) (by decide) (by decide) (by decide) dX1_init_7 (fun q1 H hP hD hS => ?_)
  have hP : va_P D gx_cl [(h0, .inr (1, [.null, .null, .int 0])), (q1, .inl (cI, 72, .inl (fun _ => 0)))] H := hP
  have hD : va_D A [(h0, .inr (1, [.null, .null, .int 0])), (q1, .inl (cI, 72, .inl (fun _ => 0)))] := hD
  refine W.widen (k := 1) (n := 72) (by decide) (by decide) ?_
  refine va_putF (ci := 1) (C := RX1) (T := TX1) (N := 3) hx hb hts inG1 tyX1 tyX1_ok nmX1 hown hK hP hD hS 0 rfl rfl 0 (by decide) (hts _ kl_X1_9) (fun _ h9 => h9) rfl hin rfl (tyX1_ok 0 (by decide)) rfl rfl (Nat.le_of_ble_eq_true rfl) dX1_init_9 (fun H locs hP hD hS => ?_)
  have hP : va_P D gx_cl [(h0, .inr (1, [.ref q1, .null, .int 0])), (q1, .inl (cI, 72, .inl (fun _ => 0)))] H := hP
  have hD : va_D A [(h0, .inr (1, [.ref q1, .null, .int 0])), (q1, .inl (cI, 72, .inl (fun _ => 0)))] := hD
  refine lv_aload_n hx hb dX1_init_12 rfl (lv_at hl 0 rfl) ?_
  refine lv_bipush (v := (zI 48)) hx hb dX1_init_13 (by decide) ?_
  refine kx_newi (N := 48) hx hb hts hK hP hD hS hA (by decide) (by decide) (by decide) (by decide) (by decide) dX1_init_15 (fun q2 H hP hD hS => ?_)
  have hP : va_P D gx_cl [(h0, .inr (1, [.ref q1, .null, .int 0])), (q1, .inl (cI, 72, .inl (fun _ => 0))), (q2, .inl (cI, 48, .inl (fun _ => 0)))] H := hP
  have hD : va_D A [(h0, .inr (1, [.ref q1, .null, .int 0])), (q1, .inl (cI, 72, .inl (fun _ => 0))), (q2, .inl (cI, 48, .inl (fun _ => 0)))] := hD
  refine W.widen (k := 2) (n := 120) (by decide) (by decide) ?_
  refine va_putF (ci := 1) (C := RX1) (T := TX1) (N := 3) hx hb hts inG1 tyX1 tyX1_ok nmX1 hown hK hP hD hS 0 rfl rfl 1 (by decide) (hts _ kl_X1_15) (fun _ h9 => h9) rfl hin rfl (tyX1_ok 1 (by decide)) rfl rfl (Nat.le_of_ble_eq_true rfl) dX1_init_17 (fun H locs hP hD hS => ?_)
  have hP : va_P D gx_cl [(h0, .inr (1, [.ref q1, .ref q2, .int 0])), (q1, .inl (cI, 72, .inl (fun _ => 0))), (q2, .inl (cI, 48, .inl (fun _ => 0)))] H := hP
  have hD : va_D A [(h0, .inr (1, [.ref q1, .ref q2, .int 0])), (q1, .inl (cI, 72, .inl (fun _ => 0))), (q2, .inl (cI, 48, .inl (fun _ => 0)))] := hD
  refine lv_aload_n hx hb dX1_init_20 rfl (lv_at hl 0 rfl) ?_
  refine lv_iconst (v := (zI 0)) hx hb dX1_init_21 (by decide) ?_
  refine va_put (ci := 1) (C := RX1) (T := TX1) (N := 3) hx hb hts inG1 tyX1 tyX1_ok nmX1 hown hK hP hD hS 0 rfl rfl 2 (by decide) (hts _ kl_X1_18) (fun _ h9 => h9) rfl (tyX1_ok 2 (by decide)) rfl rfl (Nat.le_of_ble_eq_true rfl) dX1_init_22 (fun H locs hP hD hS => ?_)
  have hP : va_P D gx_cl [(h0, .inr (1, [.ref q1, .ref q2, .int (zI 0)])), (q1, .inl (cI, 72, .inl (fun _ => 0))), (q2, .inl (cI, 48, .inl (fun _ => 0)))] H := hP
  have hD : va_D A [(h0, .inr (1, [.ref q1, .ref q2, .int (zI 0)])), (q1, .inl (cI, 72, .inl (fun _ => 0))), (q2, .inl (cI, 48, .inl (fun _ => 0)))] := hD
  refine W.widen (k := 2) (n := 120) (by decide) (by decide) ?_
  exact W.vret hx hb hr (fun t ht hW => ⟨⟨(), rfl, trivial, q1, q2, by rw [ht]; exact hP, hD⟩, hS.F ht⟩) hS.2.2 dX1_init_25

set_option maxHeartbeats 4000000 in
set_option maxRecDepth 100000 in
theorem k_X2 (l : Launch) (D : va_G) (cI cQ cJ : ClassId) (h0 sz : Nat) : kx_C l D cI cQ cJ yX2_init cX2_init 1 rk_X2 4 32 h0 sz (.inr (2, [.int 0, .int 0, .int 0, .int 0, .int 0, .int 0, .null, .null, .null, .null])) (fun t => ∃ a0 a1 a2 a3 : Nat, va_P D gx_cl [(h0, .inr (2, [.int (zI 0), .int (zI 63), .int (zI 1), .int (zI 100), .int (zI 0), .int (zI 0), .ref a0, .ref a1, .ref a2, .ref a3])), (a0, .inl (cI, 8, .inl (fun _ => 0))), (a1, .inl (cI, 8, .inl (fun _ => 0))), (a2, .inl (cI, 8, .inl (fun _ => 0))), (a3, .inl (cI, 8, .inl (fun _ => 0)))] t.heap ∧ va_D (va_A [(h0, .inr (2, [.int 0, .int 0, .int 0, .int 0, .int 0, .int 0, .null, .null, .null, .null]))] sz) [(h0, .inr (2, [.int (zI 0), .int (zI 63), .int (zI 1), .int (zI 100), .int (zI 0), .int (zI 0), .ref a0, .ref a1, .ref a2, .ref a3])), (a0, .inl (cI, 8, .inl (fun _ => 0))), (a1, .inl (cI, 8, .inl (fun _ => 0))), (a2, .inl (cI, 8, .inl (fun _ => 0))), (a3, .inl (cI, 8, .inl (fun _ => 0)))]) := by
  refine Met.ofW (cc := cX2_init) (maxL := 1) (ret := none) (by decide) rfl ?_
  intro p e s m args below meth c s₁ B hml hv
  obtain ⟨rfl, hsz, hP, hKK⟩ := hv
  have hK := hKK.1
  have hx := B.exec
  have hb := B.bytes
  have hr := B.returns
  have hts0 := atoms_spec (ws := .code yX2_init cX2_init 1 none :: gtbl) B.pre
  have hts : ∀ w ∈ gtbl, w.before ([Value.ref h0] : List Value).toArray s = true := fun w hw => hts0 w (List.mem_cons_of_mem _ hw)
  have hown : s.vm.findClass RX2 = some m.cls := findClass_of_methodNamed B.named
  have hin : meth.name = "<init>" := (name_of_methodNamed B.named B.method).1
  subst hsz
  have hD : va_D (va_A [(h0, .inr (2, [.int 0, .int 0, .int 0, .int 0, .int 0, .int 0, .null, .null, .null, .null]))] s.heap.size) [(h0, .inr (2, [.int 0, .int 0, .int 0, .int 0, .int 0, .int 0, .null, .null, .null, .null]))] := kx_one
  generalize hAe : va_A [(h0, .inr (2, [.int 0, .int 0, .int 0, .int 0, .int 0, .int 0, .null, .null, .null, .null]))] s.heap.size = A at hD ⊢
  have hA : ∀ q : Nat, s.heap.size ≤ q → A q := fun q h => by rw [← hAe]; exact Or.inr h
  have hS : va_S A s.heap s.heap [] := va_S.rf
  have hl := lv_entry ([.ref h0]) (n := 1) (Nat.le_of_ble_eq_true rfl)
  rw [lg_entry_eq]
  generalize (lg_sl ([.ref h0]) ++ List.replicate (1 - (lg_sl ([.ref h0])).length) Slot.unset).toArray = ls at hl ⊢
  have hl : lv_has ls 1 [(0, .ref h0)] := hl
  refine lv_aload_n hx hb dX2_init_0 rfl (lv_at hl 0 rfl) ?_
  refine W.objInit hx hb hown (hts _ kw_oX2) (hts _ kw_oI) (hts _ kw_oC) rfl (by rw [hml]; exact hl.1) rfl dX2_init_1 (Nat.le_of_ble_eq_true rfl) (Nat.le_of_ble_eq_true rfl) ?_
  refine W.eq (g2 := F0 m 4 ls []) rfl ?_
  refine lv_aload_n hx hb dX2_init_4 rfl (lv_at hl 0 rfl) ?_
  refine lv_iconst (v := (zI 0)) hx hb dX2_init_5 (by decide) ?_
  refine va_put (ci := 2) (C := RX2) (T := TX2) (N := 10) hx hb hts inG2 tyX2 tyX2_ok nmX2 hown hK hP hD hS 0 rfl rfl 0 (by decide) (hts _ kl_X2_9) (fun _ h9 => h9) rfl (tyX2_ok 0 (by decide)) rfl rfl (Nat.le_of_ble_eq_true rfl) dX2_init_6 (fun H locs hP hD hS => ?_)
  have hP : va_P D gx_cl [(h0, .inr (2, [.int (zI 0), .int 0, .int 0, .int 0, .int 0, .int 0, .null, .null, .null, .null]))] H := hP
  have hD : va_D A [(h0, .inr (2, [.int (zI 0), .int 0, .int 0, .int 0, .int 0, .int 0, .null, .null, .null, .null]))] := hD
  refine lv_aload_n hx hb dX2_init_9 rfl (lv_at hl 0 rfl) ?_
  refine lv_bipush (v := (zI 63)) hx hb dX2_init_10 (by decide) ?_
  refine va_put (ci := 2) (C := RX2) (T := TX2) (N := 10) hx hb hts inG2 tyX2 tyX2_ok nmX2 hown hK hP hD hS 0 rfl rfl 1 (by decide) (hts _ kl_X2_15) (fun _ h9 => h9) rfl (tyX2_ok 1 (by decide)) rfl rfl (Nat.le_of_ble_eq_true rfl) dX2_init_12 (fun H locs hP hD hS => ?_)
  have hP : va_P D gx_cl [(h0, .inr (2, [.int (zI 0), .int (zI 63), .int 0, .int 0, .int 0, .int 0, .null, .null, .null, .null]))] H := hP
  have hD : va_D A [(h0, .inr (2, [.int (zI 0), .int (zI 63), .int 0, .int 0, .int 0, .int 0, .null, .null, .null, .null]))] := hD
  refine lv_aload_n hx hb dX2_init_15 rfl (lv_at hl 0 rfl) ?_
  refine lv_iconst (v := (zI 1)) hx hb dX2_init_16 (by decide) ?_
  refine va_put (ci := 2) (C := RX2) (T := TX2) (N := 10) hx hb hts inG2 tyX2 tyX2_ok nmX2 hown hK hP hD hS 0 rfl rfl 2 (by decide) (hts _ kl_X2_18) (fun _ h9 => h9) rfl (tyX2_ok 2 (by decide)) rfl rfl (Nat.le_of_ble_eq_true rfl) dX2_init_17 (fun H locs hP hD hS => ?_)
  have hP : va_P D gx_cl [(h0, .inr (2, [.int (zI 0), .int (zI 63), .int (zI 1), .int 0, .int 0, .int 0, .null, .null, .null, .null]))] H := hP
  have hD : va_D A [(h0, .inr (2, [.int (zI 0), .int (zI 63), .int (zI 1), .int 0, .int 0, .int 0, .null, .null, .null, .null]))] := hD
  refine lv_aload_n hx hb dX2_init_20 rfl (lv_at hl 0 rfl) ?_
  refine lv_bipush (v := (zI 100)) hx hb dX2_init_21 (by decide) ?_
  refine va_put (ci := 2) (C := RX2) (T := TX2) (N := 10) hx hb hts inG2 tyX2 tyX2_ok nmX2 hown hK hP hD hS 0 rfl rfl 3 (by decide) (hts _ kl_X2_21) (fun _ h9 => h9) rfl (tyX2_ok 3 (by decide)) rfl rfl (Nat.le_of_ble_eq_true rfl) dX2_init_23 (fun H locs hP hD hS => ?_)
  have hP : va_P D gx_cl [(h0, .inr (2, [.int (zI 0), .int (zI 63), .int (zI 1), .int (zI 100), .int 0, .int 0, .null, .null, .null, .null]))] H := hP
  have hD : va_D A [(h0, .inr (2, [.int (zI 0), .int (zI 63), .int (zI 1), .int (zI 100), .int 0, .int 0, .null, .null, .null, .null]))] := hD
  refine lv_aload_n hx hb dX2_init_26 rfl (lv_at hl 0 rfl) ?_
  refine lv_iconst (v := (zI 0)) hx hb dX2_init_27 (by decide) ?_
  refine va_put (ci := 2) (C := RX2) (T := TX2) (N := 10) hx hb hts inG2 tyX2 tyX2_ok nmX2 hown hK hP hD hS 0 rfl rfl 4 (by decide) (hts _ kl_X2_24) (fun _ h9 => h9) rfl (tyX2_ok 4 (by decide)) rfl rfl (Nat.le_of_ble_eq_true rfl) dX2_init_28 (fun H locs hP hD hS => ?_)
  have hP : va_P D gx_cl [(h0, .inr (2, [.int (zI 0), .int (zI 63), .int (zI 1), .int (zI 100), .int (zI 0), .int 0, .null, .null, .null, .null]))] H := hP
  have hD : va_D A [(h0, .inr (2, [.int (zI 0), .int (zI 63), .int (zI 1), .int (zI 100), .int (zI 0), .int 0, .null, .null, .null, .null]))] := hD
  refine lv_aload_n hx hb dX2_init_31 rfl (lv_at hl 0 rfl) ?_
  refine lv_iconst (v := (zI 0)) hx hb dX2_init_32 (by decide) ?_
  refine va_put (ci := 2) (C := RX2) (T := TX2) (N := 10) hx hb hts inG2 tyX2 tyX2_ok nmX2 hown hK hP hD hS 0 rfl rfl 5 (by decide) (hts _ kl_X2_27) (fun _ h9 => h9) rfl (tyX2_ok 5 (by decide)) rfl rfl (Nat.le_of_ble_eq_true rfl) dX2_init_33 (fun H locs hP hD hS => ?_)
  have hP : va_P D gx_cl [(h0, .inr (2, [.int (zI 0), .int (zI 63), .int (zI 1), .int (zI 100), .int (zI 0), .int (zI 0), .null, .null, .null, .null]))] H := hP
  have hD : va_D A [(h0, .inr (2, [.int (zI 0), .int (zI 63), .int (zI 1), .int (zI 100), .int (zI 0), .int (zI 0), .null, .null, .null, .null]))] := hD
  refine lv_aload_n hx hb dX2_init_36 rfl (lv_at hl 0 rfl) ?_
  refine lv_bipush (v := (zI 8)) hx hb dX2_init_37 (by decide) ?_
  refine kx_newi (N := 8) hx hb hts hK hP hD hS hA (by decide) (by decide) (by decide) (by decide) (by decide) dX2_init_39 (fun q1 H hP hD hS => ?_)
  have hP : va_P D gx_cl [(h0, .inr (2, [.int (zI 0), .int (zI 63), .int (zI 1), .int (zI 100), .int (zI 0), .int (zI 0), .null, .null, .null, .null])), (q1, .inl (cI, 8, .inl (fun _ => 0)))] H := hP
  have hD : va_D A [(h0, .inr (2, [.int (zI 0), .int (zI 63), .int (zI 1), .int (zI 100), .int (zI 0), .int (zI 0), .null, .null, .null, .null])), (q1, .inl (cI, 8, .inl (fun _ => 0)))] := hD
  refine W.widen (k := 1) (n := 8) (by decide) (by decide) ?_
  refine va_putF (ci := 2) (C := RX2) (T := TX2) (N := 10) hx hb hts inG2 tyX2 tyX2_ok nmX2 hown hK hP hD hS 0 rfl rfl 6 (by decide) (hts _ kl_X2_30) (fun _ h9 => h9) rfl hin rfl (tyX2_ok 6 (by decide)) rfl rfl (Nat.le_of_ble_eq_true rfl) dX2_init_41 (fun H locs hP hD hS => ?_)
  have hP : va_P D gx_cl [(h0, .inr (2, [.int (zI 0), .int (zI 63), .int (zI 1), .int (zI 100), .int (zI 0), .int (zI 0), .ref q1, .null, .null, .null])), (q1, .inl (cI, 8, .inl (fun _ => 0)))] H := hP
  have hD : va_D A [(h0, .inr (2, [.int (zI 0), .int (zI 63), .int (zI 1), .int (zI 100), .int (zI 0), .int (zI 0), .ref q1, .null, .null, .null])), (q1, .inl (cI, 8, .inl (fun _ => 0)))] := hD
  refine lv_aload_n hx hb dX2_init_44 rfl (lv_at hl 0 rfl) ?_
  refine lv_bipush (v := (zI 8)) hx hb dX2_init_45 (by decide) ?_
  refine kx_newi (N := 8) hx hb hts hK hP hD hS hA (by decide) (by decide) (by decide) (by decide) (by decide) dX2_init_47 (fun q2 H hP hD hS => ?_)
  have hP : va_P D gx_cl [(h0, .inr (2, [.int (zI 0), .int (zI 63), .int (zI 1), .int (zI 100), .int (zI 0), .int (zI 0), .ref q1, .null, .null, .null])), (q1, .inl (cI, 8, .inl (fun _ => 0))), (q2, .inl (cI, 8, .inl (fun _ => 0)))] H := hP
  have hD : va_D A [(h0, .inr (2, [.int (zI 0), .int (zI 63), .int (zI 1), .int (zI 100), .int (zI 0), .int (zI 0), .ref q1, .null, .null, .null])), (q1, .inl (cI, 8, .inl (fun _ => 0))), (q2, .inl (cI, 8, .inl (fun _ => 0)))] := hD
  refine W.widen (k := 2) (n := 16) (by decide) (by decide) ?_
  refine va_putF (ci := 2) (C := RX2) (T := TX2) (N := 10) hx hb hts inG2 tyX2 tyX2_ok nmX2 hown hK hP hD hS 0 rfl rfl 7 (by decide) (hts _ kl_X2_34) (fun _ h9 => h9) rfl hin rfl (tyX2_ok 7 (by decide)) rfl rfl (Nat.le_of_ble_eq_true rfl) dX2_init_49 (fun H locs hP hD hS => ?_)
  have hP : va_P D gx_cl [(h0, .inr (2, [.int (zI 0), .int (zI 63), .int (zI 1), .int (zI 100), .int (zI 0), .int (zI 0), .ref q1, .ref q2, .null, .null])), (q1, .inl (cI, 8, .inl (fun _ => 0))), (q2, .inl (cI, 8, .inl (fun _ => 0)))] H := hP
  have hD : va_D A [(h0, .inr (2, [.int (zI 0), .int (zI 63), .int (zI 1), .int (zI 100), .int (zI 0), .int (zI 0), .ref q1, .ref q2, .null, .null])), (q1, .inl (cI, 8, .inl (fun _ => 0))), (q2, .inl (cI, 8, .inl (fun _ => 0)))] := hD
  refine lv_aload_n hx hb dX2_init_52 rfl (lv_at hl 0 rfl) ?_
  refine lv_bipush (v := (zI 8)) hx hb dX2_init_53 (by decide) ?_
  refine kx_newi (N := 8) hx hb hts hK hP hD hS hA (by decide) (by decide) (by decide) (by decide) (by decide) dX2_init_55 (fun q3 H hP hD hS => ?_)
  have hP : va_P D gx_cl [(h0, .inr (2, [.int (zI 0), .int (zI 63), .int (zI 1), .int (zI 100), .int (zI 0), .int (zI 0), .ref q1, .ref q2, .null, .null])), (q1, .inl (cI, 8, .inl (fun _ => 0))), (q2, .inl (cI, 8, .inl (fun _ => 0))), (q3, .inl (cI, 8, .inl (fun _ => 0)))] H := hP
  have hD : va_D A [(h0, .inr (2, [.int (zI 0), .int (zI 63), .int (zI 1), .int (zI 100), .int (zI 0), .int (zI 0), .ref q1, .ref q2, .null, .null])), (q1, .inl (cI, 8, .inl (fun _ => 0))), (q2, .inl (cI, 8, .inl (fun _ => 0))), (q3, .inl (cI, 8, .inl (fun _ => 0)))] := hD
  refine W.widen (k := 3) (n := 24) (by decide) (by decide) ?_
  refine va_putF (ci := 2) (C := RX2) (T := TX2) (N := 10) hx hb hts inG2 tyX2 tyX2_ok nmX2 hown hK hP hD hS 0 rfl rfl 8 (by decide) (hts _ kl_X2_37) (fun _ h9 => h9) rfl hin rfl (tyX2_ok 8 (by decide)) rfl rfl (Nat.le_of_ble_eq_true rfl) dX2_init_57 (fun H locs hP hD hS => ?_)
  have hP : va_P D gx_cl [(h0, .inr (2, [.int (zI 0), .int (zI 63), .int (zI 1), .int (zI 100), .int (zI 0), .int (zI 0), .ref q1, .ref q2, .ref q3, .null])), (q1, .inl (cI, 8, .inl (fun _ => 0))), (q2, .inl (cI, 8, .inl (fun _ => 0))), (q3, .inl (cI, 8, .inl (fun _ => 0)))] H := hP
  have hD : va_D A [(h0, .inr (2, [.int (zI 0), .int (zI 63), .int (zI 1), .int (zI 100), .int (zI 0), .int (zI 0), .ref q1, .ref q2, .ref q3, .null])), (q1, .inl (cI, 8, .inl (fun _ => 0))), (q2, .inl (cI, 8, .inl (fun _ => 0))), (q3, .inl (cI, 8, .inl (fun _ => 0)))] := hD
  refine lv_aload_n hx hb dX2_init_60 rfl (lv_at hl 0 rfl) ?_
  refine lv_bipush (v := (zI 8)) hx hb dX2_init_61 (by decide) ?_
  refine kx_newi (N := 8) hx hb hts hK hP hD hS hA (by decide) (by decide) (by decide) (by decide) (by decide) dX2_init_63 (fun q4 H hP hD hS => ?_)
  have hP : va_P D gx_cl [(h0, .inr (2, [.int (zI 0), .int (zI 63), .int (zI 1), .int (zI 100), .int (zI 0), .int (zI 0), .ref q1, .ref q2, .ref q3, .null])), (q1, .inl (cI, 8, .inl (fun _ => 0))), (q2, .inl (cI, 8, .inl (fun _ => 0))), (q3, .inl (cI, 8, .inl (fun _ => 0))), (q4, .inl (cI, 8, .inl (fun _ => 0)))] H := hP
  have hD : va_D A [(h0, .inr (2, [.int (zI 0), .int (zI 63), .int (zI 1), .int (zI 100), .int (zI 0), .int (zI 0), .ref q1, .ref q2, .ref q3, .null])), (q1, .inl (cI, 8, .inl (fun _ => 0))), (q2, .inl (cI, 8, .inl (fun _ => 0))), (q3, .inl (cI, 8, .inl (fun _ => 0))), (q4, .inl (cI, 8, .inl (fun _ => 0)))] := hD
  refine W.widen (k := 4) (n := 32) (by decide) (by decide) ?_
  refine va_putF (ci := 2) (C := RX2) (T := TX2) (N := 10) hx hb hts inG2 tyX2 tyX2_ok nmX2 hown hK hP hD hS 0 rfl rfl 9 (by decide) (hts _ kl_X2_40) (fun _ h9 => h9) rfl hin rfl (tyX2_ok 9 (by decide)) rfl rfl (Nat.le_of_ble_eq_true rfl) dX2_init_65 (fun H locs hP hD hS => ?_)
  have hP : va_P D gx_cl [(h0, .inr (2, [.int (zI 0), .int (zI 63), .int (zI 1), .int (zI 100), .int (zI 0), .int (zI 0), .ref q1, .ref q2, .ref q3, .ref q4])), (q1, .inl (cI, 8, .inl (fun _ => 0))), (q2, .inl (cI, 8, .inl (fun _ => 0))), (q3, .inl (cI, 8, .inl (fun _ => 0))), (q4, .inl (cI, 8, .inl (fun _ => 0)))] H := hP
  have hD : va_D A [(h0, .inr (2, [.int (zI 0), .int (zI 63), .int (zI 1), .int (zI 100), .int (zI 0), .int (zI 0), .ref q1, .ref q2, .ref q3, .ref q4])), (q1, .inl (cI, 8, .inl (fun _ => 0))), (q2, .inl (cI, 8, .inl (fun _ => 0))), (q3, .inl (cI, 8, .inl (fun _ => 0))), (q4, .inl (cI, 8, .inl (fun _ => 0)))] := hD
  refine W.widen (k := 4) (n := 32) (by decide) (by decide) ?_
  exact W.vret hx hb hr (fun t ht hW => ⟨⟨(), rfl, trivial, q1, q2, q3, q4, by rw [ht]; exact hP, hD⟩, hS.F ht⟩) hS.2.2 dX2_init_68

set_option maxHeartbeats 4000000 in
set_option maxRecDepth 100000 in
theorem k_X3 (l : Launch) (D : va_G) (cI cQ cJ : ClassId) (h0 sz : Nat) : kx_C l D cI cQ cJ yX3_init cX3_init 1 rk_X3 1 20 h0 sz (.inr (3, [.null, .int 0, .int 0, .int 0, .int 0, .int 0, .int 0, .int 0, .int 0])) (fun t => ∃ a0 : Nat, va_P D gx_cl [(h0, .inr (3, [.ref a0, .int (zI 0), .int (zI 0), .int (zI 0), .int (zI 0), .int (zI 0), .int (zI (-1)), .int (zI (-1)), .int (zI 0)])), (a0, .inl (cI, 20, .inl (fun _ => 0)))] t.heap ∧ va_D (va_A [(h0, .inr (3, [.null, .int 0, .int 0, .int 0, .int 0, .int 0, .int 0, .int 0, .int 0]))] sz) [(h0, .inr (3, [.ref a0, .int (zI 0), .int (zI 0), .int (zI 0), .int (zI 0), .int (zI 0), .int (zI (-1)), .int (zI (-1)), .int (zI 0)])), (a0, .inl (cI, 20, .inl (fun _ => 0)))]) := by
  refine Met.ofW (cc := cX3_init) (maxL := 1) (ret := none) (by decide) rfl ?_
  intro p e s m args below meth c s₁ B hml hv
  obtain ⟨rfl, hsz, hP, hKK⟩ := hv
  have hK := hKK.1
  have hx := B.exec
  have hb := B.bytes
  have hr := B.returns
  have hts0 := atoms_spec (ws := .code yX3_init cX3_init 1 none :: gtbl) B.pre
  have hts : ∀ w ∈ gtbl, w.before ([Value.ref h0] : List Value).toArray s = true := fun w hw => hts0 w (List.mem_cons_of_mem _ hw)
  have hown : s.vm.findClass RX3 = some m.cls := findClass_of_methodNamed B.named
  have hin : meth.name = "<init>" := (name_of_methodNamed B.named B.method).1
  subst hsz
  have hD : va_D (va_A [(h0, .inr (3, [.null, .int 0, .int 0, .int 0, .int 0, .int 0, .int 0, .int 0, .int 0]))] s.heap.size) [(h0, .inr (3, [.null, .int 0, .int 0, .int 0, .int 0, .int 0, .int 0, .int 0, .int 0]))] := kx_one
  generalize hAe : va_A [(h0, .inr (3, [.null, .int 0, .int 0, .int 0, .int 0, .int 0, .int 0, .int 0, .int 0]))] s.heap.size = A at hD ⊢
  have hA : ∀ q : Nat, s.heap.size ≤ q → A q := fun q h => by rw [← hAe]; exact Or.inr h
  have hS : va_S A s.heap s.heap [] := va_S.rf
  have hl := lv_entry ([.ref h0]) (n := 1) (Nat.le_of_ble_eq_true rfl)
  rw [lg_entry_eq]
  generalize (lg_sl ([.ref h0]) ++ List.replicate (1 - (lg_sl ([.ref h0])).length) Slot.unset).toArray = ls at hl ⊢
  have hl : lv_has ls 1 [(0, .ref h0)] := hl
  refine lv_aload_n hx hb dX3_init_0 rfl (lv_at hl 0 rfl) ?_
  refine W.objInit hx hb hown (hts _ kw_oX3) (hts _ kw_oI) (hts _ kw_oC) rfl (by rw [hml]; exact hl.1) rfl dX3_init_1 (Nat.le_of_ble_eq_true rfl) (Nat.le_of_ble_eq_true rfl) ?_
  refine W.eq (g2 := F0 m 4 ls []) rfl ?_
  refine lv_aload_n hx hb dX3_init_4 rfl (lv_at hl 0 rfl) ?_
  refine lv_bipush (v := (zI 20)) hx hb dX3_init_5 (by decide) ?_
  refine kx_newi (N := 20) hx hb hts hK hP hD hS hA (by decide) (by decide) (by decide) (by decide) (by decide) dX3_init_7 (fun q1 H hP hD hS => ?_)
  have hP : va_P D gx_cl [(h0, .inr (3, [.null, .int 0, .int 0, .int 0, .int 0, .int 0, .int 0, .int 0, .int 0])), (q1, .inl (cI, 20, .inl (fun _ => 0)))] H := hP
  have hD : va_D A [(h0, .inr (3, [.null, .int 0, .int 0, .int 0, .int 0, .int 0, .int 0, .int 0, .int 0])), (q1, .inl (cI, 20, .inl (fun _ => 0)))] := hD
  refine W.widen (k := 1) (n := 20) (by decide) (by decide) ?_
  refine va_putF (ci := 3) (C := RX3) (T := TX3) (N := 9) hx hb hts inG3 tyX3 tyX3_ok nmX3 hown hK hP hD hS 0 rfl rfl 0 (by decide) (hts _ kl_X3_9) (fun _ h9 => h9) rfl hin rfl (tyX3_ok 0 (by decide)) rfl rfl (Nat.le_of_ble_eq_true rfl) dX3_init_9 (fun H locs hP hD hS => ?_)
  have hP : va_P D gx_cl [(h0, .inr (3, [.ref q1, .int 0, .int 0, .int 0, .int 0, .int 0, .int 0, .int 0, .int 0])), (q1, .inl (cI, 20, .inl (fun _ => 0)))] H := hP
  have hD : va_D A [(h0, .inr (3, [.ref q1, .int 0, .int 0, .int 0, .int 0, .int 0, .int 0, .int 0, .int 0])), (q1, .inl (cI, 20, .inl (fun _ => 0)))] := hD
  refine lv_aload_n hx hb dX3_init_12 rfl (lv_at hl 0 rfl) ?_
  refine lv_iconst (v := (zI 0)) hx hb dX3_init_13 (by decide) ?_
  refine va_put (ci := 3) (C := RX3) (T := TX3) (N := 9) hx hb hts inG3 tyX3 tyX3_ok nmX3 hown hK hP hD hS 0 rfl rfl 1 (by decide) (hts _ kl_X3_15) (fun _ h9 => h9) rfl (tyX3_ok 1 (by decide)) rfl rfl (Nat.le_of_ble_eq_true rfl) dX3_init_14 (fun H locs hP hD hS => ?_)
  have hP : va_P D gx_cl [(h0, .inr (3, [.ref q1, .int (zI 0), .int 0, .int 0, .int 0, .int 0, .int 0, .int 0, .int 0])), (q1, .inl (cI, 20, .inl (fun _ => 0)))] H := hP
  have hD : va_D A [(h0, .inr (3, [.ref q1, .int (zI 0), .int 0, .int 0, .int 0, .int 0, .int 0, .int 0, .int 0])), (q1, .inl (cI, 20, .inl (fun _ => 0)))] := hD
  refine lv_aload_n hx hb dX3_init_17 rfl (lv_at hl 0 rfl) ?_
  refine lv_iconst (v := (zI 0)) hx hb dX3_init_18 (by decide) ?_
  refine va_put (ci := 3) (C := RX3) (T := TX3) (N := 9) hx hb hts inG3 tyX3 tyX3_ok nmX3 hown hK hP hD hS 0 rfl rfl 2 (by decide) (hts _ kl_X3_19) (fun _ h9 => h9) rfl (tyX3_ok 2 (by decide)) rfl rfl (Nat.le_of_ble_eq_true rfl) dX3_init_19 (fun H locs hP hD hS => ?_)
  have hP : va_P D gx_cl [(h0, .inr (3, [.ref q1, .int (zI 0), .int (zI 0), .int 0, .int 0, .int 0, .int 0, .int 0, .int 0])), (q1, .inl (cI, 20, .inl (fun _ => 0)))] H := hP
  have hD : va_D A [(h0, .inr (3, [.ref q1, .int (zI 0), .int (zI 0), .int 0, .int 0, .int 0, .int 0, .int 0, .int 0])), (q1, .inl (cI, 20, .inl (fun _ => 0)))] := hD
  refine lv_aload_n hx hb dX3_init_22 rfl (lv_at hl 0 rfl) ?_
  refine lv_iconst (v := (zI 0)) hx hb dX3_init_23 (by decide) ?_
  refine va_put (ci := 3) (C := RX3) (T := TX3) (N := 9) hx hb hts inG3 tyX3 tyX3_ok nmX3 hown hK hP hD hS 0 rfl rfl 3 (by decide) (hts _ kl_X3_22) (fun _ h9 => h9) rfl (tyX3_ok 3 (by decide)) rfl rfl (Nat.le_of_ble_eq_true rfl) dX3_init_24 (fun H locs hP hD hS => ?_)
  have hP : va_P D gx_cl [(h0, .inr (3, [.ref q1, .int (zI 0), .int (zI 0), .int (zI 0), .int 0, .int 0, .int 0, .int 0, .int 0])), (q1, .inl (cI, 20, .inl (fun _ => 0)))] H := hP
  have hD : va_D A [(h0, .inr (3, [.ref q1, .int (zI 0), .int (zI 0), .int (zI 0), .int 0, .int 0, .int 0, .int 0, .int 0])), (q1, .inl (cI, 20, .inl (fun _ => 0)))] := hD
  refine lv_aload_n hx hb dX3_init_27 rfl (lv_at hl 0 rfl) ?_
  refine lv_iconst (v := (zI 0)) hx hb dX3_init_28 (by decide) ?_
  refine va_put (ci := 3) (C := RX3) (T := TX3) (N := 9) hx hb hts inG3 tyX3 tyX3_ok nmX3 hown hK hP hD hS 0 rfl rfl 4 (by decide) (hts _ kl_X3_25) (fun _ h9 => h9) rfl (tyX3_ok 4 (by decide)) rfl rfl (Nat.le_of_ble_eq_true rfl) dX3_init_29 (fun H locs hP hD hS => ?_)
  have hP : va_P D gx_cl [(h0, .inr (3, [.ref q1, .int (zI 0), .int (zI 0), .int (zI 0), .int (zI 0), .int 0, .int 0, .int 0, .int 0])), (q1, .inl (cI, 20, .inl (fun _ => 0)))] H := hP
  have hD : va_D A [(h0, .inr (3, [.ref q1, .int (zI 0), .int (zI 0), .int (zI 0), .int (zI 0), .int 0, .int 0, .int 0, .int 0])), (q1, .inl (cI, 20, .inl (fun _ => 0)))] := hD
  refine lv_aload_n hx hb dX3_init_32 rfl (lv_at hl 0 rfl) ?_
  refine lv_iconst (v := (zI 0)) hx hb dX3_init_33 (by decide) ?_
  refine va_put (ci := 3) (C := RX3) (T := TX3) (N := 9) hx hb hts inG3 tyX3 tyX3_ok nmX3 hown hK hP hD hS 0 rfl rfl 5 (by decide) (hts _ kl_X3_28) (fun _ h9 => h9) rfl (tyX3_ok 5 (by decide)) rfl rfl (Nat.le_of_ble_eq_true rfl) dX3_init_34 (fun H locs hP hD hS => ?_)
  have hP : va_P D gx_cl [(h0, .inr (3, [.ref q1, .int (zI 0), .int (zI 0), .int (zI 0), .int (zI 0), .int (zI 0), .int 0, .int 0, .int 0])), (q1, .inl (cI, 20, .inl (fun _ => 0)))] H := hP
  have hD : va_D A [(h0, .inr (3, [.ref q1, .int (zI 0), .int (zI 0), .int (zI 0), .int (zI 0), .int (zI 0), .int 0, .int 0, .int 0])), (q1, .inl (cI, 20, .inl (fun _ => 0)))] := hD
  refine lv_aload_n hx hb dX3_init_37 rfl (lv_at hl 0 rfl) ?_
  refine lv_iconst (v := (zI (-1))) hx hb dX3_init_38 (by decide) ?_
  refine va_put (ci := 3) (C := RX3) (T := TX3) (N := 9) hx hb hts inG3 tyX3 tyX3_ok nmX3 hown hK hP hD hS 0 rfl rfl 6 (by decide) (hts _ kl_X3_31) (fun _ h9 => h9) rfl (tyX3_ok 6 (by decide)) rfl rfl (Nat.le_of_ble_eq_true rfl) dX3_init_39 (fun H locs hP hD hS => ?_)
  have hP : va_P D gx_cl [(h0, .inr (3, [.ref q1, .int (zI 0), .int (zI 0), .int (zI 0), .int (zI 0), .int (zI 0), .int (zI (-1)), .int 0, .int 0])), (q1, .inl (cI, 20, .inl (fun _ => 0)))] H := hP
  have hD : va_D A [(h0, .inr (3, [.ref q1, .int (zI 0), .int (zI 0), .int (zI 0), .int (zI 0), .int (zI 0), .int (zI (-1)), .int 0, .int 0])), (q1, .inl (cI, 20, .inl (fun _ => 0)))] := hD
  refine lv_aload_n hx hb dX3_init_42 rfl (lv_at hl 0 rfl) ?_
  refine lv_iconst (v := (zI (-1))) hx hb dX3_init_43 (by decide) ?_
  refine va_put (ci := 3) (C := RX3) (T := TX3) (N := 9) hx hb hts inG3 tyX3 tyX3_ok nmX3 hown hK hP hD hS 0 rfl rfl 7 (by decide) (hts _ kl_X3_34) (fun _ h9 => h9) rfl (tyX3_ok 7 (by decide)) rfl rfl (Nat.le_of_ble_eq_true rfl) dX3_init_44 (fun H locs hP hD hS => ?_)
  have hP : va_P D gx_cl [(h0, .inr (3, [.ref q1, .int (zI 0), .int (zI 0), .int (zI 0), .int (zI 0), .int (zI 0), .int (zI (-1)), .int (zI (-1)), .int 0])), (q1, .inl (cI, 20, .inl (fun _ => 0)))] H := hP
  have hD : va_D A [(h0, .inr (3, [.ref q1, .int (zI 0), .int (zI 0), .int (zI 0), .int (zI 0), .int (zI 0), .int (zI (-1)), .int (zI (-1)), .int 0])), (q1, .inl (cI, 20, .inl (fun _ => 0)))] := hD
  refine lv_aload_n hx hb dX3_init_47 rfl (lv_at hl 0 rfl) ?_
  refine lv_iconst (v := (zI 0)) hx hb dX3_init_48 (by decide) ?_
  refine va_put (ci := 3) (C := RX3) (T := TX3) (N := 9) hx hb hts inG3 tyX3 tyX3_ok nmX3 hown hK hP hD hS 0 rfl rfl 8 (by decide) (hts _ kl_X3_37) (fun _ h9 => h9) rfl (tyX3_ok 8 (by decide)) rfl rfl (Nat.le_of_ble_eq_true rfl) dX3_init_49 (fun H locs hP hD hS => ?_)
  have hP : va_P D gx_cl [(h0, .inr (3, [.ref q1, .int (zI 0), .int (zI 0), .int (zI 0), .int (zI 0), .int (zI 0), .int (zI (-1)), .int (zI (-1)), .int (zI 0)])), (q1, .inl (cI, 20, .inl (fun _ => 0)))] H := hP
  have hD : va_D A [(h0, .inr (3, [.ref q1, .int (zI 0), .int (zI 0), .int (zI 0), .int (zI 0), .int (zI 0), .int (zI (-1)), .int (zI (-1)), .int (zI 0)])), (q1, .inl (cI, 20, .inl (fun _ => 0)))] := hD
  refine W.widen (k := 1) (n := 20) (by decide) (by decide) ?_
  exact W.vret hx hb hr (fun t ht hW => ⟨⟨(), rfl, trivial, q1, by rw [ht]; exact hP, hD⟩, hS.F ht⟩) hS.2.2 dX3_init_52


theorem kx_lt8 {f g : Nat → Option Nat} (h0 : f 0 = g 0) (h1 : f 1 = g 1) (h2 : f 2 = g 2) (h3 : f 3 = g 3) (h4 : f 4 = g 4) (h5 : f 5 = g 5) (h6 : f 6 = g 6) (h7 : f 7 = g 7) : ∀ i, i < 8 → f i = g i := fun i hi => by
  rcases (show i = 0 ∨ i = 1 ∨ i = 2 ∨ i = 3 ∨ i = 4 ∨ i = 5 ∨ i = 6 ∨ i = 7 by omega) with rfl | rfl | rfl | rfl | rfl | rfl | rfl | rfl <;> assumption


theorem zI0 : zI 0 = 0 := by decide
theorem kx_ad {ws : va_W} {i : Nat} (h : i < ws.length) : ∃ p, ws[i]? = some p ∧ (ws.map Prod.fst).getD i 0 = p.1 := by
  refine ⟨ws[i], List.getElem?_eq_getElem h, ?_⟩
  rw [List.getD_eq_getElem?_getD, List.getElem?_map, List.getElem?_eq_getElem h]
  rfl
theorem kx_OKof {A : Nat → Prop} {ws : va_W} {D : va_G} {T : ClassId × ClassId × ClassId} {Z : Nat × Nat} {n : Nat} (hD : va_D A ws) (hn : ws.length = n) : gx_OK ((D, (fun i => (ws.map Prod.fst).getD i 0), T, Z, n) : gx_G) n ∧ ∀ q, gx_A ((D, (fun i => (ws.map Prod.fst).getD i 0), T, Z, n) : gx_G) q → A q := by
  subst hn
  refine ⟨⟨fun i j hi hj e => ?_, Nat.le_refl _⟩, fun q hq => ?_⟩
  · obtain ⟨p, p1, p2⟩ := kx_ad (ws := ws) (i := i) hi
    obtain ⟨r, r1, r2⟩ := kx_ad (ws := ws) (i := j) hj
    have e : (ws.map Prod.fst).getD i 0 = (ws.map Prod.fst).getD j 0 := e
    exact hD.1 i j p r p1 r1 (by rw [← p2, ← r2]; exact e)
  · obtain ⟨i, hi, rfl⟩ := hq
    obtain ⟨p, p1, p2⟩ := kx_ad (ws := ws) (i := i) hi
    show A ((ws.map Prod.fst).getD i 0)
    rw [p2]; exact hD.2 i p p1
/-- the static tables, the nest's words -/
def kx_S (rT tT : Nat) (A : Nat → Prop) (U : State) : Prop :=
  (va_Z "BassButtons" "ROW_NOTES" "[I" (.ref rT) A U U.heap ∧ va_T .int rT 6 (fun j => .int (gx_rowN j)) A U U.heap) ∧
  (va_Z "BassButtons" "TURN_COSTS" "[I" (.ref tT) A U U.heap ∧ va_T .int tT 4 (fun j => .int (gx_turnN j)) A U U.heap) ∧
  va_Nw (.fieldLinkNest RX1 22 "BassButtons" "ROW_NOTES" "[I" "BassButtons") U ∧ va_Nw (.fieldLinkNest RX0 82 "BassButtons" "TURN_COSTS" "[I" "BassButtons") U ∧ va_Nw (.methodLinkNest RX1 25 yX5_rootOf "BassButtons") U
theorem kx_S.frame {rT tT : Nat} {A : Nat → Prop} {U : State} {g : JFrame} {mk : MethodId} {a : Array Value} (h : kx_S rT tT A U) : kx_S rT tT A (U.calling g mk a) := by
  have hv := Vm.Alike.refl U.vm
  obtain ⟨⟨h2, h3⟩, ⟨h4, h5⟩, h6, h7, h8⟩ := h
  exact ⟨⟨va_Z.moved (u := U) (U := U.calling g mk a) hv h2, va_T.moved (u := U) (U := U.calling g mk a) hv h3⟩, ⟨va_Z.moved (u := U) (U := U.calling g mk a) hv h4, va_T.moved (u := U) (U := U.calling g mk a) hv h5⟩, va_Nw.same rfl rfl h6, va_Nw.same rfl rfl h7, va_Nw.same rfl rfl h8⟩
theorem kx_S.to {rT tT : Nat} {A A1 : Nat → Prop} {s U : State} {H : Heap} {locs : List Loc} (h : kx_S rT tT A s) (hA : ∀ q, A1 q → A q) (hS : va_S A s.heap H locs) (hU : U.heap = H) (hW : s.WarmedH U.vm) : kx_S rT tT A1 U := by
  obtain ⟨⟨h2, h3⟩, ⟨h4, h5⟩, h6, h7, h8⟩ := h
  subst hU
  exact ⟨⟨((h2.kept hS.2.1).moved hW.alike).narrow hA, ((h3.kept hS.2.1).moved hW.alike).narrow hA⟩, ⟨((h4.kept hS.2.1).moved hW.alike).narrow hA, ((h5.kept hS.2.1).moved hW.alike).narrow hA⟩, va_Nw.warmF hW h6, va_Nw.warmF hW h7, va_Nw.warmM hW h8⟩
/-! the call of tune in the constructor of a hand -/
abbrev TW (cI : ClassId) (q1 q2 q3 : Nat) (c : Int32) (f g : Nat → Int32) : va_W := [(q1, .inr (1, [.ref q2, .ref q3, .int c])), (q2, .inl (cI, 72, .inl f)), (q3, .inl (cI, 48, .inl g))]
abbrev G3 (D : va_G) (cI cQ cJ : ClassId) (rT tT q1 q2 q3 : Nat) : gx_G := (D, (fun i => ([q1, q2, q3] : List Nat).getD i 0), (cI, cQ, cJ), (rT, tT), 3)
theorem kx_tw {D : va_G} {cI cQ cJ : ClassId} {rT tT q1 q2 q3 : Nat} {J : zJ} : gx_wb (G3 D cI cQ cJ rT tT q1 q2 q3) (zh J) = TW cI q1 q2 q3 (zI (J 0 2)) (fun k => zI (J 1 k)) (fun k => zI (J 2 k)) := rfl
theorem kx_twD {A : Nat → Prop} {cI : ClassId} {q1 q2 q3 n : Nat} {c c' : Int32} {f g f' g' : Nat → Int32} (hD : va_D A (TW cI q1 q2 q3 c f g)) : va_D (va_A (TW cI q1 q2 q3 c f g) n) (TW cI q1 q2 q3 c' f' g') := by
  have key : ∀ (k : Nat) (q : Nat × va_E), (TW cI q1 q2 q3 c' f' g')[k]? = some q → ∃ q0 : Nat × va_E, (TW cI q1 q2 q3 c f g)[k]? = some q0 ∧ q0.1 = q.1 := fun k q hk => by
    match k, hk with
    | 0, hk => cases hk; exact ⟨_, rfl, rfl⟩
    | 1, hk => cases hk; exact ⟨_, rfl, rfl⟩
    | 2, hk => cases hk; exact ⟨_, rfl, rfl⟩
    | k + 3, hk => simp at hk
  refine ⟨fun i j p q hp hq e => ?_, fun k q hk => ?_⟩
  · obtain ⟨p0, a1, a2⟩ := key i p hp
    obtain ⟨r0, b1, b2⟩ := key j q hq
    exact hD.1 i j p0 r0 a1 b1 (by rw [a2, b2]; exact e)
  · obtain ⟨q0, a1, a2⟩ := key k q hk
    rw [← a2]; exact va_A.in a1
theorem kx_tune {p : Program} {l : Launch} {e : Env} {R : Room} {s : State} {m : MethodId} {args : Array Value} {below : List Frame} {meth : Method} {c : Code} {H : Heap} {locs : List Loc} {cells slots : Nat} {Q : State → Prop} {pc nL : Nat} {ls : Array Slot} {rest : List Value} {D : va_G} {A : Nat → Prop} {cI cQ cJ : ClassId} {rT tT q1 q2 q3 : Nat}
    (hx : p.tables.exec = Jvm.exec) (hb : c.code = cX4_init) (hml : c.maxLocals = nL) (hown : s.vm.findClass RX4 = some m.cls) (hts : ∀ w ∈ gtbl, w.before args s = true) (hK : va_K D gx_cl (kTY cI cQ cJ) s) (hKS : kx_S rT tT A s) (hP : va_P D gx_cl (TW cI q1 q2 q3 (zI 0) (fun _ => 0) (fun _ => 0)) H) (hD : va_D A (TW cI q1 q2 q3 (zI 0) (fun _ => 0) (fun _ => 0))) (hS : va_S A s.heap H locs) (hsz : ls.size = nL) (hsum : (rest.map fun v => v.category).sum ≤ 8) (hf : rmX1_tune.frames + 1 ≤ R.frames ∧ 8 + (6 + 11) + rmX1_tune.locals ≤ R.locals) (hcs : cells ≤ R.cells ∧ slots ≤ R.slots) (hd : decode cX4_init pc = .ok (.invokevirtual 37, 3))
    (kk : ∀ (J1 : zJ) (H1 : Heap) (locs1 : List Loc), Tuned J1 0 0 63 → va_P D gx_cl (TW cI q1 q2 q3 (zI (J1 0 2)) (fun k => zI (J1 1 k)) (fun k => zI (J1 2 k))) H1 → va_D (va_A (TW cI q1 q2 q3 (zI 0) (fun _ => 0) (fun _ => 0)) H.size) (TW cI q1 q2 q3 (zI (J1 0 2)) (fun k => zI (J1 1 k)) (fun k => zI (J1 2 k))) → (∀ q : Nat, q < H.size → ¬ va_A (TW cI q1 q2 q3 (zI 0) (fun _ => 0) (fun _ => 0)) H.size q → H1[q]? = H[q]?) → va_S A s.heap H1 locs1 → W p l e R s m args below meth c H1 locs1 cells slots Q (F0 m (pc + 3) ls rest)) : W p l e R s m args below meth c H locs cells slots Q (F0 m pc ls (.int (zI 63) :: .int (zI 0) :: .ref q1 :: rest)) := by
  have e0 : (fun _ : Nat => (0 : Int32)) = fun _ => zI 0 := funext fun _ => zI0.symm
  have hOG := kx_OKof (D := D) (T := (cI, cQ, cJ)) (Z := (rT, tT)) (n := 3) hD rfl
  have hOK : gx_OK (G3 D cI cQ cJ rT tT q1 q2 q3) 3 := hOG.1
  have hGA : ∀ q, gx_A (G3 D cI cQ cJ rT tT q1 q2 q3) q → A q := hOG.2
  have hGV : ∀ q, gx_A (G3 D cI cQ cJ rT tT q1 q2 q3) q → va_A (TW cI q1 q2 q3 (zI 0) (fun _ => 0) (fun _ => 0)) H.size q := fun q h => by
    obtain ⟨i, hi, rfl⟩ := h
    have hi : i < 3 := hi
    rcases (show i = 0 ∨ i = 1 ∨ i = 2 by omega) with rfl | rfl | rfl
    · exact Or.inl ⟨0, _, rfl⟩
    · exact Or.inl ⟨1, _, rfl⟩
    · exact Or.inl ⟨2, _, rfl⟩
  have hP3 : gx_Pb (G3 D cI cQ cJ rT tT q1 q2 q3) (zh (fun _ _ => 0)) H := by
    show va_P D gx_cl (gx_wb (G3 D cI cQ cJ rT tT q1 q2 q3) (zh (fun _ _ => 0))) H
    rw [kx_tw, ← e0]; exact hP
  obtain ⟨⟨T, N, h1⟩, h2, ⟨w1, w2, w3, w4, w5⟩, hd3⟩ := lv_X4_37
  have hg : GoodIn gtbl (wsV RX4 37 yX1_tune.cls yX1_tune (.code yX1_tune cX1_tune 6 none :: gtbl)) := gx_good_app [.methodLink RX4 37 yX1_tune, .instanceMethod yX1_tune, .selects yX1_tune.cls yX1_tune yX1_tune, .initialized yX1_tune.cls] (fun w hw => by simp only [List.mem_cons, List.not_mem_nil, or_false] at hw; rcases hw with rfl | rfl | rfl | rfl <;> assumption) w5
  have hM := mX1_tuneb (l := l) hOK (d := 0) rfl (fun _ _ => 0) (base := 0) (rows := 63) (by decide) (by decide)
  refine va_callv (va_runV (b := q1) (As := [.int (zI 0), .int (zI 63)]) (rest := rest) ⟨hx, hb, hml, hown, hts⟩ hM (cwV 2 hts hg rfl rfl rfl ⟨rfl, hd3⟩ hf) ⟨fun a' U g mk q => ⟨q.1, q.2.1, gx_K_frame q.2.2⟩, va_recv (q0 := 0) hK hP h1 rfl, fun U hU hW => ⟨rfl, by rw [hU]; exact hP3, gx_K_to (G := G3 D cI cQ cJ rT tT q1 q2 q3) ⟨hK, hKS⟩ hGA hS hU hW⟩⟩ rfl rfl hsz rfl (lv_room hsum) hd ⟨hcs.1, hcs.2⟩) hS (fun q _ h => hGA q h) hGA (fun u t H1 locs1 ht hvm hw hB hz1 hk1 hS1 => ?_)
  obtain ⟨J1, rfl, hT, -⟩ := hw
  have hB : va_P D gx_cl (gx_wb (G3 D cI cQ cJ rT tT q1 q2 q3) (zh J1)) t.heap := hB
  rw [kx_tw, ht] at hB
  exact kk J1 H1 locs1 hT hB (kx_twD hD) (fun q h1 h2 => hk1 q h1 (fun h3 => h2 (hGV q h3))) hS1

