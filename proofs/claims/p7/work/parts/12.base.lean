/-! base: uniform contracts, and calls by them (my own rows) -/
section BASE
abbrev CtI (l : Launch) (D : va_G) (cl : List vw_C) (tys : List (ClassId × FieldType)) (y : MethodName) (ws : List Cond) (rm : Room) (av : List Value) (w : va_W) {S : Type} (post : Int32 → S → Prop) (wn : S → va_W) (mc ms : Nat) : Prop :=
  ∀ sz : Nat, Met l y ws rm (va_Pc av (fun U => U.heap.size = sz ∧ va_P D cl w U.heap ∧ va_K D cl tys U ∧ va_D (fun _ => True) w)) (va_Qi post (fun u t => va_P D cl (wn u) t.heap ∧ va_K D cl tys t ∧ va_D (va_A w sz) (wn u)) (va_A w sz)) mc ms (va_A w sz)
abbrev CtV (l : Launch) (D : va_G) (cl : List vw_C) (tys : List (ClassId × FieldType)) (y : MethodName) (ws : List Cond) (rm : Room) (av : List Value) (w : va_W) {S : Type} (post : S → Prop) (wn : S → va_W) (mc ms : Nat) : Prop :=
  ∀ sz : Nat, Met l y ws rm (va_Pc av (fun U => U.heap.size = sz ∧ va_P D cl w U.heap ∧ va_K D cl tys U ∧ va_D (fun _ => True) w)) (va_Qv post (fun u t => va_P D cl (wn u) t.heap ∧ va_K D cl tys t ∧ va_D (va_A w sz) (wn u)) (va_A w sz)) mc ms (va_A w sz)
variable {p : Program} {l : Launch} {e : Env} {R : Room} {s : State} {m : MethodId} {args : Array Value} {below : List Frame} {meth : Method} {c : Code} {H : Heap} {locs : List Loc} {cells slots : Nat} {Q : State → Prop}
variable {cc bytes : ByteArray} {pc nL maxL index n mc ms : Nat} {ls : Array Slot} {rest st0 : List Value} {D : va_G} {cl : List vw_C} {A : Nat → Prop} {tys : List (ClassId × FieldType)} {ws w wr : va_W} {S : Type}
variable {y : MethodName} {ret : Option FieldType} {wd wd' Ts : List Cond} {rm : Room} {own C : String} {b : Addr} {As av : List Value} {ty : FieldType} {lv : List (Nat × Value)}
theorem ct_I {post : Int32 → S → Prop} {wn : S → va_W} (hy : plainName y.cls = true) (hw : wd = Cond.code y cc maxL (some ty) :: wd') (ho : y.cls = own) (hav : (lg_sl av).length ≤ maxL) (hlv : lv_args 0 av = lv)
    (body : ∀ (p : Program) (e : Env) (s : State) (m : MethodId) (args : Array Value) (below : List Frame) (meth : Method) (c : Code) (A : Nat → Prop) (Q : State → Prop) (ls : Array Slot), CallFix p m c cc maxL s args wd own → va_K D cl tys s → va_P D cl w s.heap → va_D A w → (∀ q, s.heap.size ≤ q → A q) → lv_has ls maxL lv →
      (∀ (v : Int32) (u : S) (H : Heap) (locs : List Loc) (pc : Nat) (ls : Array Slot), narrow ty (.int v) = .int v → decode cc pc = .ok (.ireturn, 1) → post v u → va_P D cl (wn u) H → va_D A (wn u) → va_S A s.heap H locs → W p l e rm s m args below meth c H locs mc ms Q (F0 m pc ls [.int v])) →
      W p l e rm s m args below meth c s.heap [] 0 0 Q (F0 m 0 ls [])) : CtI l D cl tys y wd rm av w post wn mc ms := by
  intro sz
  refine Met.ofW (cc := cc) (maxL := maxL) (ret := some ty) hy hw ?_
  intro p e s m args below meth c s₁ B hml hv
  obtain ⟨rfl, hsz, hP, hK, hD0⟩ := hv
  subst hsz
  have hts := atoms_spec (ws := wd) B.pre
  have hown : s.vm.findClass own = some m.cls := ho ▸ findClass_of_methodNamed B.named
  have hl := lv_entry av (n := maxL) hav
  rw [lg_entry_eq]
  rw [hlv] at hl
  refine body p e s m av.toArray below meth c (va_A w s.heap.size) _ _ ⟨B.exec, B.bytes, hml, hown, hts⟩ hK hP hD0.self (fun q h => Or.inr h) hl ?_
  intro v u H locs pc ls hn hdg hpost hP hD hS
  exact W.zret B.exec B.bytes B.returns hn (fun t ht hW => ⟨⟨v, u, rfl, hpost, by rw [ht]; exact hP, va_K.moved hW.alike hK, hD⟩, hS.F ht⟩) hS.2.2 hdg B.notSynchronized
theorem ct_V {post : S → Prop} {wn : S → va_W} (hy : plainName y.cls = true) (hw : wd = Cond.code y cc maxL none :: wd') (ho : y.cls = own) (hav : (lg_sl av).length ≤ maxL) (hlv : lv_args 0 av = lv)
    (body : ∀ (p : Program) (e : Env) (s : State) (m : MethodId) (args : Array Value) (below : List Frame) (meth : Method) (c : Code) (A : Nat → Prop) (Q : State → Prop) (ls : Array Slot), meth.name = y.name → CallFix p m c cc maxL s args wd own → va_K D cl tys s → va_P D cl w s.heap → va_D A w → (∀ q, s.heap.size ≤ q → A q) → lv_has ls maxL lv →
      (∀ (u : S) (H : Heap) (locs : List Loc) (pc : Nat) (ls : Array Slot), decode cc pc = .ok (.return_, 1) → post u → va_P D cl (wn u) H → va_D A (wn u) → va_S A s.heap H locs → W p l e rm s m args below meth c H locs mc ms Q (F0 m pc ls [])) →
      W p l e rm s m args below meth c s.heap [] 0 0 Q (F0 m 0 ls [])) : CtV l D cl tys y wd rm av w post wn mc ms := by
  intro sz
  refine Met.ofW (cc := cc) (maxL := maxL) (ret := none) hy hw ?_
  intro p e s m args below meth c s₁ B hml hv
  obtain ⟨rfl, hsz, hP, hK, hD0⟩ := hv
  subst hsz
  have hts := atoms_spec (ws := wd) B.pre
  have hown : s.vm.findClass own = some m.cls := ho ▸ findClass_of_methodNamed B.named
  have hl := lv_entry av (n := maxL) hav
  rw [lg_entry_eq]
  rw [hlv] at hl
  refine body p e s m av.toArray below meth c (va_A w s.heap.size) _ _ (name_of_methodNamed B.named B.method).1 ⟨B.exec, B.bytes, hml, hown, hts⟩ hK hP hD0.self (fun q h => Or.inr h) hl ?_
  intro u H locs pc ls hdg hpost hP hD hS
  exact W.vret B.exec B.bytes B.returns (fun t ht hW => ⟨⟨u, rfl, hpost, by rw [ht]; exact hP, va_K.moved hW.alike hK, hD⟩, hS.F ht⟩) hS.2.2 hdg B.notSynchronized
theorem cl_sub {ws w : va_W} {isC : List Nat} (h : isC.map (fun i => ws[i]?) = w.map some) : isC.filterMap (fun i => ws[i]?) = w := by
  induction isC generalizing w with
  | nil => cases w with
    | nil => rfl
    | cons a t => simp at h
  | cons i t ih => cases w with
    | nil => simp at h
    | cons a r =>
      simp only [List.map_cons, List.cons.injEq] at h
      rw [List.filterMap_cons, h.1]
      exact congrArg (a :: ·) (ih h.2)
theorem cl_all (hD : va_D A ws) (hS : va_S A s.heap H locs) (hA : ∀ q, s.heap.size ≤ q → A q) : ∀ q, va_A ws H.size q → A q := fun q h => h.elim (fun ⟨k, e, hk⟩ => hD.2 k _ hk) (fun h => hA q (Nat.le_trans hS.1 h))
theorem cl_arr (h : (Cond.arrayClass ty).before args s = true) : ∃ cA, ArrOfT s cA ty ∧ s.vm.findClass ("[" ++ ty.toString) = some cA := by
  obtain ⟨cB, kB, comp, hcB, hkB, hkind⟩ := Cond.arrayClass_spec h
  exact ⟨cB, fun n z => ⟨fun k h => (by cases h), kB, hkB, comp, hkind⟩, hcB⟩
theorem cl_newa (hexec : p.tables.exec = Jvm.exec) (hb : c.code = cc) {atype : ArrayType} (harr : (Cond.arrayClass (newarray.typeOf atype)).before args s = true) (hty : newarray.typeOf atype = ty) (hra : ∀ cA, va_RA s cA ty → s.vm.findClass ("[" ++ ty.toString) = some cA) (t0 : Nat) {cI : ClassId} (ht : tys[t0]? = some (cI, ty)) (hK : va_K D cl tys s) (hP : va_P D cl ws H) (hD : va_D A ws) (hS : va_S A s.heap H locs) (hA : ∀ q, s.heap.size ≤ q → A q)
    {n : Int32} {N' : Nat} {a0 : vp_A} (ha : ∀ cA : ClassId, vp_cell cA a0 = arrV cA N' (fun _ => defaultValue ty)) (hn : ¬ n < 0) (hN : n.toNatClampNeg = N') (hbytes : N' * componentBytes ty ≤ 536870912) (hcells : cells + 1 ≤ R.cells) (hslots : slots + N' ≤ R.slots) (hdg : decode cc pc = .ok (.newarray atype, 2))
    (kk : ∀ (q : Nat) (H1 : Heap), va_P D cl (ws ++ [(q, .inl (cI, a0))]) H1 → va_D A (ws ++ [(q, .inl (cI, a0))]) → va_S A s.heap H1 locs →
      W p l e R s m args below meth c H1 locs (cells + 1) (slots + N') Q (F0 m (pc + 2) ls (.ref q :: rest))) : W p l e R s m args below meth c H locs cells slots Q (F0 m pc ls (.int n :: rest)) := by
  refine va_newa hexec hb harr hty hK hP hD hS hA ha hn hN hbytes hcells hslots hdg (fun q cA H1 hK2 hP2 hD2 hS2 => ?_)
  have e1 := hra _ (hK.2 t0 _ ht).2
  have e2 := hra _ (hK2.2 tys.length (cA, ty) (by simp)).2
  rw [e1] at e2
  obtain rfl := Option.some.inj e2
  exact kk q H1 hP2 hD2 hS2

theorem cw_Vi {post : Int32 → S → Prop} {wn : S → va_W} (hC : CtI l D cl tys y wd rm (.ref b :: As) ws post wn mc ms) (fix : CallFix p m c cc nL s args Ts own) (cw : CallW R s args own C index y bytes maxL ret wd rm mc ms n)
    (hK : va_K D cl tys s) (hP : va_P D cl ws H) (hD : va_D A ws) (hS : va_S A s.heap H locs) (hA : ∀ q, s.heap.size ≤ q → A q) 
    (q0 : Nat) {ci : Nat} {q : vw_C} {fs : List Value} (hc : cl[ci]? = some q) (hqC : q.1 = C) (he : ws[q0]? = some (b, .inr (ci, fs))) (hlen : As.length = n) (hls : ls.size = nL) (hst : st0 = As.reverse ++ .ref b :: rest) (hroom : (rest.map fun v => v.category).sum ≤ 8) (hdg : decode cc pc = .ok (.invokevirtual index, 3)) (hf : cells + mc ≤ R.cells ∧ slots + ms ≤ R.slots)
    (kk : ∀ (r : Int32) (u : S) (H1 : Heap) (locs1 : List Loc), post r u → va_P D cl (wn u) H1 → va_D A (wn u) → va_S A s.heap H1 locs1 → W p l e R s m args below meth c H1 locs1 (cells + mc) (slots + ms) Q (F0 m (pc + 3) ls (.int r :: rest))) :
    W p l e R s m args below meth c H locs cells slots Q (F0 m pc ls st0) := by
  subst hqC
  have hPc := hP
  have hDc := hD
  have hFc := cl_all hD hS hA
  refine va_calli (va_runV (As := As) (rest := rest) fix (hC H.size) cw ⟨fun a U g mk q => by obtain ⟨q0, q1, qP, qK, qD⟩ := q; exact ⟨q0, q1, qP, va_K.moved (u := U) (U := U.calling g mk a) (Vm.Alike.refl U.vm) qK, qD⟩, va_recv hK hPc hc he, fun U hU hW => ⟨rfl, by rw [hU], by rw [hU]; exact hPc, va_K.moved hW.alike hK, hDc.weaken (fun _ _ _ _ => trivial)⟩⟩ rfl hlen hls hst (lv_room hroom) hdg hf) hS (fun q _ h => hFc q h) hFc (fun r u t H1 locs1 ht hvm hw hB hz1 hk1 hS1 => ?_)
  obtain ⟨hP1, hK1, hD1⟩ := hB
  rw [ht] at hP1
  exact kk r u H1 locs1 hw hP1 (hD1.weaken (fun _ _ _ h => hFc _ h)) hS1
theorem cw_Vv {post : S → Prop} {wn : S → va_W} (hC : CtV l D cl tys y wd rm (.ref b :: As) ws post wn mc ms) (fix : CallFix p m c cc nL s args Ts own) (cw : CallW R s args own C index y bytes maxL ret wd rm mc ms n)
    (hK : va_K D cl tys s) (hP : va_P D cl ws H) (hD : va_D A ws) (hS : va_S A s.heap H locs) (hA : ∀ q, s.heap.size ≤ q → A q) 
    (q0 : Nat) {ci : Nat} {q : vw_C} {fs : List Value} (hc : cl[ci]? = some q) (hqC : q.1 = C) (he : ws[q0]? = some (b, .inr (ci, fs))) (hlen : As.length = n) (hls : ls.size = nL) (hst : st0 = As.reverse ++ .ref b :: rest) (hroom : (rest.map fun v => v.category).sum ≤ 8) (hdg : decode cc pc = .ok (.invokevirtual index, 3)) (hf : cells + mc ≤ R.cells ∧ slots + ms ≤ R.slots)
    (kk : ∀ (u : S) (H1 : Heap) (locs1 : List Loc), post u → va_P D cl (wn u) H1 → va_D A (wn u) → va_S A s.heap H1 locs1 → W p l e R s m args below meth c H1 locs1 (cells + mc) (slots + ms) Q (F0 m (pc + 3) ls (rest))) :
    W p l e R s m args below meth c H locs cells slots Q (F0 m pc ls st0) := by
  subst hqC
  have hPc := hP
  have hDc := hD
  have hFc := cl_all hD hS hA
  refine va_callv (va_runV (As := As) (rest := rest) fix (hC H.size) cw ⟨fun a U g mk q => by obtain ⟨q0, q1, qP, qK, qD⟩ := q; exact ⟨q0, q1, qP, va_K.moved (u := U) (U := U.calling g mk a) (Vm.Alike.refl U.vm) qK, qD⟩, va_recv hK hPc hc he, fun U hU hW => ⟨rfl, by rw [hU], by rw [hU]; exact hPc, va_K.moved hW.alike hK, hDc.weaken (fun _ _ _ _ => trivial)⟩⟩ rfl hlen hls hst (lv_room hroom) hdg hf) hS (fun q _ h => hFc q h) hFc (fun u t H1 locs1 ht hvm hw hB hz1 hk1 hS1 => ?_)
  obtain ⟨hP1, hK1, hD1⟩ := hB
  rw [ht] at hP1
  exact kk u H1 locs1 hw hP1 (hD1.weaken (fun _ _ _ h => hFc _ h)) hS1
theorem cw_Si {post : Int32 → S → Prop} {wn : S → va_W} (hC : CtI l D cl tys y wd rm As ws post wn mc ms) (fix : CallFix p m c cc nL s args Ts own) (cw : CallB R s args own index y bytes maxL ret wd rm mc ms n ∧ (Cond.static y).before args s = true)
    (hK : va_K D cl tys s) (hP : va_P D cl ws H) (hD : va_D A ws) (hS : va_S A s.heap H locs) (hA : ∀ q, s.heap.size ≤ q → A q) 
     (hlen : As.length = n) (hls : ls.size = nL) (hst : st0 = As.reverse ++ rest) (hroom : (rest.map fun v => v.category).sum ≤ 8) (hdg : decode cc pc = .ok (.invokestatic index, 3)) (hf : cells + mc ≤ R.cells ∧ slots + ms ≤ R.slots)
    (kk : ∀ (r : Int32) (u : S) (H1 : Heap) (locs1 : List Loc), post r u → va_P D cl (wn u) H1 → va_D A (wn u) → va_S A s.heap H1 locs1 → W p l e R s m args below meth c H1 locs1 (cells + mc) (slots + ms) Q (F0 m (pc + 3) ls (.int r :: rest))) :
    W p l e R s m args below meth c H locs cells slots Q (F0 m pc ls st0) := by
  have hPc := hP
  have hDc := hD
  have hFc := cl_all hD hS hA
  refine va_calli (va_runS (As := As) (rest := rest) fix (hC H.size) cw ⟨fun a U g mk q => by obtain ⟨q0, q1, qP, qK, qD⟩ := q; exact ⟨q0, q1, qP, va_K.moved (u := U) (U := U.calling g mk a) (Vm.Alike.refl U.vm) qK, qD⟩, fun U hU hW => ⟨rfl, by rw [hU], by rw [hU]; exact hPc, va_K.moved hW.alike hK, hDc.weaken (fun _ _ _ _ => trivial)⟩⟩ rfl hlen hls hst (lv_room hroom) hdg hf) hS (fun q _ h => hFc q h) hFc (fun r u t H1 locs1 ht hvm hw hB hz1 hk1 hS1 => ?_)
  obtain ⟨hP1, hK1, hD1⟩ := hB
  rw [ht] at hP1
  exact kk r u H1 locs1 hw hP1 (hD1.weaken (fun _ _ _ h => hFc _ h)) hS1
theorem cw_Sv {post : S → Prop} {wn : S → va_W} (hC : CtV l D cl tys y wd rm As ws post wn mc ms) (fix : CallFix p m c cc nL s args Ts own) (cw : CallB R s args own index y bytes maxL ret wd rm mc ms n ∧ (Cond.static y).before args s = true)
    (hK : va_K D cl tys s) (hP : va_P D cl ws H) (hD : va_D A ws) (hS : va_S A s.heap H locs) (hA : ∀ q, s.heap.size ≤ q → A q) 
     (hlen : As.length = n) (hls : ls.size = nL) (hst : st0 = As.reverse ++ rest) (hroom : (rest.map fun v => v.category).sum ≤ 8) (hdg : decode cc pc = .ok (.invokestatic index, 3)) (hf : cells + mc ≤ R.cells ∧ slots + ms ≤ R.slots)
    (kk : ∀ (u : S) (H1 : Heap) (locs1 : List Loc), post u → va_P D cl (wn u) H1 → va_D A (wn u) → va_S A s.heap H1 locs1 → W p l e R s m args below meth c H1 locs1 (cells + mc) (slots + ms) Q (F0 m (pc + 3) ls (rest))) :
    W p l e R s m args below meth c H locs cells slots Q (F0 m pc ls st0) := by
  have hPc := hP
  have hDc := hD
  have hFc := cl_all hD hS hA
  refine va_callv (va_runS (As := As) (rest := rest) fix (hC H.size) cw ⟨fun a U g mk q => by obtain ⟨q0, q1, qP, qK, qD⟩ := q; exact ⟨q0, q1, qP, va_K.moved (u := U) (U := U.calling g mk a) (Vm.Alike.refl U.vm) qK, qD⟩, fun U hU hW => ⟨rfl, by rw [hU], by rw [hU]; exact hPc, va_K.moved hW.alike hK, hDc.weaken (fun _ _ _ _ => trivial)⟩⟩ rfl hlen hls hst (lv_room hroom) hdg hf) hS (fun q _ h => hFc q h) hFc (fun u t H1 locs1 ht hvm hw hB hz1 hk1 hS1 => ?_)
  obtain ⟨hP1, hK1, hD1⟩ := hB
  rw [ht] at hP1
  exact kk u H1 locs1 hw hP1 (hD1.weaken (fun _ _ _ h => hFc _ h)) hS1
theorem cw_Iv {post : S → Prop} {wn : S → va_W} (hC : CtV l D cl tys y wd rm (.ref b :: As) ws post wn mc ms) (fix : CallFix p m c cc nL s args Ts own) (cw : CallB R s args own index y bytes maxL none wd rm mc ms n ∧ y.name = "<init>" ∧ (Cond.instanceMethod y).before args s = true)
    (hK : va_K D cl tys s) (hP : va_P D cl ws H) (hD : va_D A ws) (hS : va_S A s.heap H locs) (hA : ∀ q, s.heap.size ≤ q → A q) 
     (hlen : As.length = n) (hls : ls.size = nL) (hst : st0 = As.reverse ++ .ref b :: rest) (hroom : (rest.map fun v => v.category).sum ≤ 8) (hdg : decode cc pc = .ok (.invokespecial index, 3)) (hf : cells + mc ≤ R.cells ∧ slots + ms ≤ R.slots)
    (kk : ∀ (u : S) (H1 : Heap) (locs1 : List Loc), post u → va_P D cl (wn u) H1 → va_D A (wn u) → va_S A s.heap H1 locs1 → W p l e R s m args below meth c H1 locs1 (cells + mc) (slots + ms) Q (F0 m (pc + 3) ls (rest))) :
    W p l e R s m args below meth c H locs cells slots Q (F0 m pc ls st0) := by
  have hPc := hP
  have hDc := hD
  have hFc := cl_all hD hS hA
  refine va_callv (va_runI (As := As) (rest := rest) fix (hC H.size) cw ⟨fun a U g mk q => by obtain ⟨q0, q1, qP, qK, qD⟩ := q; exact ⟨q0, q1, qP, va_K.moved (u := U) (U := U.calling g mk a) (Vm.Alike.refl U.vm) qK, qD⟩, fun U hU hW => ⟨rfl, by rw [hU], by rw [hU]; exact hPc, va_K.moved hW.alike hK, hDc.weaken (fun _ _ _ _ => trivial)⟩⟩ rfl hlen hls hst (lv_room hroom) hdg hf) hS (fun q _ h => hFc q h) hFc (fun u t H1 locs1 ht hvm hw hB hz1 hk1 hS1 => ?_)
  obtain ⟨hP1, hK1, hD1⟩ := hB
  rw [ht] at hP1
  exact kk u H1 locs1 hw hP1 (hD1.weaken (fun _ _ _ h => hFc _ h)) hS1
theorem cl_Vi {post : Int32 → S → Prop} {wn : S → va_W} (hC : CtI l D cl tys y wd rm (.ref b :: As) w post wn mc ms) (fix : CallFix p m c cc nL s args Ts own) (cw : CallW R s args own C index y bytes maxL ret wd rm mc ms n)
    (hK : va_K D cl tys s) (hP : va_P D cl ws H) (hD : va_D A ws) (hS : va_S A s.heap H locs) (hA : ∀ q, s.heap.size ≤ q → A q) (isC isR : List Nat) (eC : isC.map (fun i => ws[i]?) = w.map some) (eR : isR.map (fun i => ws[i]?) = wr.map some) (hn : va_nd isR = true) (hnC : va_nd isC = true) (hdis : ∀ i ∈ isR, i ∉ isC)
    (q0 : Nat) {ci : Nat} {q : vw_C} {fs : List Value} (hc : cl[ci]? = some q) (hqC : q.1 = C) (he : w[q0]? = some (b, .inr (ci, fs))) (hlen : As.length = n) (hls : ls.size = nL) (hst : st0 = As.reverse ++ .ref b :: rest) (hroom : (rest.map fun v => v.category).sum ≤ 8) (hdg : decode cc pc = .ok (.invokevirtual index, 3)) (hf : cells + mc ≤ R.cells ∧ slots + ms ≤ R.slots)
    (kk : ∀ (r : Int32) (u : S) (H1 : Heap) (locs1 : List Loc), post r u → va_P D cl (wr ++ wn u) H1 → va_D A (wr ++ wn u) → va_S A s.heap H1 locs1 → W p l e R s m args below meth c H1 locs1 (cells + mc) (slots + ms) Q (F0 m (pc + 3) ls (.int r :: rest))) :
    W p l e R s m args below meth c H locs cells slots Q (F0 m pc ls st0) := by
  subst hqC
  have hPc := hP.sub (ws' := w) isC (cl_sub eC)
  have hDc := hD.sub (ws' := w) isC hnC eC
  have hFc := va_free (wc := w) hD hS hA isC eC
  refine va_calli (va_runV (As := As) (rest := rest) fix (hC H.size) cw ⟨fun a U g mk q => by obtain ⟨q0, q1, qP, qK, qD⟩ := q; exact ⟨q0, q1, qP, va_K.moved (u := U) (U := U.calling g mk a) (Vm.Alike.refl U.vm) qK, qD⟩, va_recv hK hPc hc he, fun U hU hW => ⟨rfl, by rw [hU], by rw [hU]; exact hPc, va_K.moved hW.alike hK, hDc.weaken (fun _ _ _ _ => trivial)⟩⟩ rfl hlen hls hst (lv_room hroom) hdg hf) hS (fun q _ h => hFc q h) hFc (fun r u t H1 locs1 ht hvm hw hB hz1 hk1 hS1 => ?_)
  obtain ⟨hP1, hK1, hD1⟩ := hB
  rw [ht] at hP1
  obtain ⟨hP2, hD2⟩ := va_join (wr := wr) (w1 := wn u) hP hD isC isR eC eR hn hdis hk1 hFc hP1 hD1
  exact kk r u H1 locs1 hw hP2 hD2 hS1
theorem cl_Vv {post : S → Prop} {wn : S → va_W} (hC : CtV l D cl tys y wd rm (.ref b :: As) w post wn mc ms) (fix : CallFix p m c cc nL s args Ts own) (cw : CallW R s args own C index y bytes maxL ret wd rm mc ms n)
    (hK : va_K D cl tys s) (hP : va_P D cl ws H) (hD : va_D A ws) (hS : va_S A s.heap H locs) (hA : ∀ q, s.heap.size ≤ q → A q) (isC isR : List Nat) (eC : isC.map (fun i => ws[i]?) = w.map some) (eR : isR.map (fun i => ws[i]?) = wr.map some) (hn : va_nd isR = true) (hnC : va_nd isC = true) (hdis : ∀ i ∈ isR, i ∉ isC)
    (q0 : Nat) {ci : Nat} {q : vw_C} {fs : List Value} (hc : cl[ci]? = some q) (hqC : q.1 = C) (he : w[q0]? = some (b, .inr (ci, fs))) (hlen : As.length = n) (hls : ls.size = nL) (hst : st0 = As.reverse ++ .ref b :: rest) (hroom : (rest.map fun v => v.category).sum ≤ 8) (hdg : decode cc pc = .ok (.invokevirtual index, 3)) (hf : cells + mc ≤ R.cells ∧ slots + ms ≤ R.slots)
    (kk : ∀ (u : S) (H1 : Heap) (locs1 : List Loc), post u → va_P D cl (wr ++ wn u) H1 → va_D A (wr ++ wn u) → va_S A s.heap H1 locs1 → W p l e R s m args below meth c H1 locs1 (cells + mc) (slots + ms) Q (F0 m (pc + 3) ls (rest))) :
    W p l e R s m args below meth c H locs cells slots Q (F0 m pc ls st0) := by
  subst hqC
  have hPc := hP.sub (ws' := w) isC (cl_sub eC)
  have hDc := hD.sub (ws' := w) isC hnC eC
  have hFc := va_free (wc := w) hD hS hA isC eC
  refine va_callv (va_runV (As := As) (rest := rest) fix (hC H.size) cw ⟨fun a U g mk q => by obtain ⟨q0, q1, qP, qK, qD⟩ := q; exact ⟨q0, q1, qP, va_K.moved (u := U) (U := U.calling g mk a) (Vm.Alike.refl U.vm) qK, qD⟩, va_recv hK hPc hc he, fun U hU hW => ⟨rfl, by rw [hU], by rw [hU]; exact hPc, va_K.moved hW.alike hK, hDc.weaken (fun _ _ _ _ => trivial)⟩⟩ rfl hlen hls hst (lv_room hroom) hdg hf) hS (fun q _ h => hFc q h) hFc (fun u t H1 locs1 ht hvm hw hB hz1 hk1 hS1 => ?_)
  obtain ⟨hP1, hK1, hD1⟩ := hB
  rw [ht] at hP1
  obtain ⟨hP2, hD2⟩ := va_join (wr := wr) (w1 := wn u) hP hD isC isR eC eR hn hdis hk1 hFc hP1 hD1
  exact kk u H1 locs1 hw hP2 hD2 hS1
theorem cl_Si {post : Int32 → S → Prop} {wn : S → va_W} (hC : CtI l D cl tys y wd rm As w post wn mc ms) (fix : CallFix p m c cc nL s args Ts own) (cw : CallB R s args own index y bytes maxL ret wd rm mc ms n ∧ (Cond.static y).before args s = true)
    (hK : va_K D cl tys s) (hP : va_P D cl ws H) (hD : va_D A ws) (hS : va_S A s.heap H locs) (hA : ∀ q, s.heap.size ≤ q → A q) (isC isR : List Nat) (eC : isC.map (fun i => ws[i]?) = w.map some) (eR : isR.map (fun i => ws[i]?) = wr.map some) (hn : va_nd isR = true) (hnC : va_nd isC = true) (hdis : ∀ i ∈ isR, i ∉ isC)
     (hlen : As.length = n) (hls : ls.size = nL) (hst : st0 = As.reverse ++ rest) (hroom : (rest.map fun v => v.category).sum ≤ 8) (hdg : decode cc pc = .ok (.invokestatic index, 3)) (hf : cells + mc ≤ R.cells ∧ slots + ms ≤ R.slots)
    (kk : ∀ (r : Int32) (u : S) (H1 : Heap) (locs1 : List Loc), post r u → va_P D cl (wr ++ wn u) H1 → va_D A (wr ++ wn u) → va_S A s.heap H1 locs1 → W p l e R s m args below meth c H1 locs1 (cells + mc) (slots + ms) Q (F0 m (pc + 3) ls (.int r :: rest))) :
    W p l e R s m args below meth c H locs cells slots Q (F0 m pc ls st0) := by
  have hPc := hP.sub (ws' := w) isC (cl_sub eC)
  have hDc := hD.sub (ws' := w) isC hnC eC
  have hFc := va_free (wc := w) hD hS hA isC eC
  refine va_calli (va_runS (As := As) (rest := rest) fix (hC H.size) cw ⟨fun a U g mk q => by obtain ⟨q0, q1, qP, qK, qD⟩ := q; exact ⟨q0, q1, qP, va_K.moved (u := U) (U := U.calling g mk a) (Vm.Alike.refl U.vm) qK, qD⟩, fun U hU hW => ⟨rfl, by rw [hU], by rw [hU]; exact hPc, va_K.moved hW.alike hK, hDc.weaken (fun _ _ _ _ => trivial)⟩⟩ rfl hlen hls hst (lv_room hroom) hdg hf) hS (fun q _ h => hFc q h) hFc (fun r u t H1 locs1 ht hvm hw hB hz1 hk1 hS1 => ?_)
  obtain ⟨hP1, hK1, hD1⟩ := hB
  rw [ht] at hP1
  obtain ⟨hP2, hD2⟩ := va_join (wr := wr) (w1 := wn u) hP hD isC isR eC eR hn hdis hk1 hFc hP1 hD1
  exact kk r u H1 locs1 hw hP2 hD2 hS1
theorem cl_Sv {post : S → Prop} {wn : S → va_W} (hC : CtV l D cl tys y wd rm As w post wn mc ms) (fix : CallFix p m c cc nL s args Ts own) (cw : CallB R s args own index y bytes maxL ret wd rm mc ms n ∧ (Cond.static y).before args s = true)
    (hK : va_K D cl tys s) (hP : va_P D cl ws H) (hD : va_D A ws) (hS : va_S A s.heap H locs) (hA : ∀ q, s.heap.size ≤ q → A q) (isC isR : List Nat) (eC : isC.map (fun i => ws[i]?) = w.map some) (eR : isR.map (fun i => ws[i]?) = wr.map some) (hn : va_nd isR = true) (hnC : va_nd isC = true) (hdis : ∀ i ∈ isR, i ∉ isC)
     (hlen : As.length = n) (hls : ls.size = nL) (hst : st0 = As.reverse ++ rest) (hroom : (rest.map fun v => v.category).sum ≤ 8) (hdg : decode cc pc = .ok (.invokestatic index, 3)) (hf : cells + mc ≤ R.cells ∧ slots + ms ≤ R.slots)
    (kk : ∀ (u : S) (H1 : Heap) (locs1 : List Loc), post u → va_P D cl (wr ++ wn u) H1 → va_D A (wr ++ wn u) → va_S A s.heap H1 locs1 → W p l e R s m args below meth c H1 locs1 (cells + mc) (slots + ms) Q (F0 m (pc + 3) ls (rest))) :
    W p l e R s m args below meth c H locs cells slots Q (F0 m pc ls st0) := by
  have hPc := hP.sub (ws' := w) isC (cl_sub eC)
  have hDc := hD.sub (ws' := w) isC hnC eC
  have hFc := va_free (wc := w) hD hS hA isC eC
  refine va_callv (va_runS (As := As) (rest := rest) fix (hC H.size) cw ⟨fun a U g mk q => by obtain ⟨q0, q1, qP, qK, qD⟩ := q; exact ⟨q0, q1, qP, va_K.moved (u := U) (U := U.calling g mk a) (Vm.Alike.refl U.vm) qK, qD⟩, fun U hU hW => ⟨rfl, by rw [hU], by rw [hU]; exact hPc, va_K.moved hW.alike hK, hDc.weaken (fun _ _ _ _ => trivial)⟩⟩ rfl hlen hls hst (lv_room hroom) hdg hf) hS (fun q _ h => hFc q h) hFc (fun u t H1 locs1 ht hvm hw hB hz1 hk1 hS1 => ?_)
  obtain ⟨hP1, hK1, hD1⟩ := hB
  rw [ht] at hP1
  obtain ⟨hP2, hD2⟩ := va_join (wr := wr) (w1 := wn u) hP hD isC isR eC eR hn hdis hk1 hFc hP1 hD1
  exact kk u H1 locs1 hw hP2 hD2 hS1
theorem cl_Iv {post : S → Prop} {wn : S → va_W} (hC : CtV l D cl tys y wd rm (.ref b :: As) w post wn mc ms) (fix : CallFix p m c cc nL s args Ts own) (cw : CallB R s args own index y bytes maxL none wd rm mc ms n ∧ y.name = "<init>" ∧ (Cond.instanceMethod y).before args s = true)
    (hK : va_K D cl tys s) (hP : va_P D cl ws H) (hD : va_D A ws) (hS : va_S A s.heap H locs) (hA : ∀ q, s.heap.size ≤ q → A q) (isC isR : List Nat) (eC : isC.map (fun i => ws[i]?) = w.map some) (eR : isR.map (fun i => ws[i]?) = wr.map some) (hn : va_nd isR = true) (hnC : va_nd isC = true) (hdis : ∀ i ∈ isR, i ∉ isC)
     (hlen : As.length = n) (hls : ls.size = nL) (hst : st0 = As.reverse ++ .ref b :: rest) (hroom : (rest.map fun v => v.category).sum ≤ 8) (hdg : decode cc pc = .ok (.invokespecial index, 3)) (hf : cells + mc ≤ R.cells ∧ slots + ms ≤ R.slots)
    (kk : ∀ (u : S) (H1 : Heap) (locs1 : List Loc), post u → va_P D cl (wr ++ wn u) H1 → va_D A (wr ++ wn u) → va_S A s.heap H1 locs1 → W p l e R s m args below meth c H1 locs1 (cells + mc) (slots + ms) Q (F0 m (pc + 3) ls (rest))) :
    W p l e R s m args below meth c H locs cells slots Q (F0 m pc ls st0) := by
  have hPc := hP.sub (ws' := w) isC (cl_sub eC)
  have hDc := hD.sub (ws' := w) isC hnC eC
  have hFc := va_free (wc := w) hD hS hA isC eC
  refine va_callv (va_runI (As := As) (rest := rest) fix (hC H.size) cw ⟨fun a U g mk q => by obtain ⟨q0, q1, qP, qK, qD⟩ := q; exact ⟨q0, q1, qP, va_K.moved (u := U) (U := U.calling g mk a) (Vm.Alike.refl U.vm) qK, qD⟩, fun U hU hW => ⟨rfl, by rw [hU], by rw [hU]; exact hPc, va_K.moved hW.alike hK, hDc.weaken (fun _ _ _ _ => trivial)⟩⟩ rfl hlen hls hst (lv_room hroom) hdg hf) hS (fun q _ h => hFc q h) hFc (fun u t H1 locs1 ht hvm hw hB hz1 hk1 hS1 => ?_)
  obtain ⟨hP1, hK1, hD1⟩ := hB
  rw [ht] at hP1
  obtain ⟨hP2, hD2⟩ := va_join (wr := wr) (w1 := wn u) hP hD isC isR eC eR hn hdis hk1 hFc hP1 hD1
  exact kk u H1 locs1 hw hP2 hD2 hS1
end BASE
abbrev tys3 (cI cZ cJ : ClassId) : List (ClassId × FieldType) := [(cI, .int), (cZ, .boolean), (cJ, .long)]
abbrev wC (cI cZ : ClassId) (h : Nat → Nat) (F : Nat → Nat → Int32) (V : Nat → Int32) : va_W := [
  (h 0, .inr (4, [.ref (h 1), .ref (h 2), .ref (h 3), .ref (h 4), .int (V 0)])),
  (h 1, .inr (1, [.ref (h 5), .ref (h 6), .ref (h 7), .ref (h 8), .ref (h 9), .int (V 1), .ref (h 10), .ref (h 11), .ref (h 12), .ref (h 13), .int (V 2)])),
  (h 2, .inr (0, [.ref (h 1), .ref (h 14), .ref (h 15), .ref (h 16), .ref (h 17), .ref (h 18), .ref (h 19), .ref (h 20), .int (V 3), .ref (h 21), .ref (h 22)])),
  (h 3, .inr (3, [.ref (h 1), .ref (h 2), .ref (h 23), .int (V 4), .int (V 5), .int (V 6), .int (V 7), .ref (h 24), .ref (h 25), .ref (h 26), .ref (h 27), .ref (h 28), .int (V 8), .int (V 9)])),
  (h 4, .inr (2, [.ref (h 29), .int (V 10), .int (V 11), .int (V 12), .ref (h 30)])),
  (h 5, .inl (cI, 15, .inl (F 5))),
  (h 6, .inl (cI, 40, .inl (F 6))),
  (h 7, .inl (cI, 40, .inl (F 7))),
  (h 8, .inl (cI, 40, .inl (F 8))),
  (h 9, .inl (cI, 40, .inl (F 9))),
  (h 10, .inl (cI, 24, .inl (F 10))),
  (h 11, .inl (cI, 24, .inl (F 11))),
  (h 12, .inl (cI, 24, .inl (F 12))),
  (h 13, .inl (cI, 24, .inl (F 13))),
  (h 14, .inl (cI, 4, .inl (F 14))),
  (h 15, .inl (cI, 40, .inl (F 15))),
  (h 16, .inl (cI, 40, .inl (F 16))),
  (h 17, .inl (cI, 40, .inl (F 17))),
  (h 18, .inl (cI, 4, .inl (F 18))),
  (h 19, .inl (cI, 40, .inl (F 19))),
  (h 20, .inl (cI, 4, .inl (F 20))),
  (h 21, .inl (cI, 128, .inl (F 21))),
  (h 22, .inl (cZ, 128, .inl (F 22))),
  (h 23, .inl (cI, 24, .inl (F 23))),
  (h 24, .inl (cI, 402, .inl (F 24))),
  (h 25, .inl (cI, 402, .inl (F 25))),
  (h 26, .inl (cI, 402, .inl (F 26))),
  (h 27, .inl (cI, 24, .inl (F 27))),
  (h 28, .inl (cI, 24, .inl (F 28))),
  (h 29, .inl (cI, 40, .inl (F 29))),
  (h 30, .inl (cI, 40, .inl (F 30)))]
abbrev wM (cI cZ cJ : ClassId) (h : Nat → Nat) (F : Nat → Nat → Int32) (G : Nat → Int64) (V : Nat → Int32) : va_W := [
  (h 0, .inr (5, [.int (V 0), .int (V 1), .int (V 2), .int (V 3), .int (V 4), .int (V 5), .int (V 6), .int (V 7), .ref (h 1), .ref (h 2), .ref (h 3), .ref (h 4), .ref (h 5), .ref (h 6), .ref (h 7), .ref (h 8), .ref (h 9), .ref (h 10), .ref (h 11), .ref (h 12), .ref (h 13), .ref (h 14), .ref (h 15), .int (V 8), .int (V 9), .ref (h 16), .ref (h 17), .int (V 10), .ref (h 18), .ref (h 19), .ref (h 20), .int (V 11), .ref (h 21)])),
  (h 1, .inl (cI, 40, .inl (F 1))),
  (h 2, .inl (cI, 40, .inl (F 2))),
  (h 3, .inl (cI, 40, .inl (F 3))),
  (h 4, .inl (cI, 4, .inl (F 4))),
  (h 5, .inl (cI, 24, .inl (F 5))),
  (h 6, .inl (cI, 24, .inl (F 6))),
  (h 7, .inl (cI, 24, .inl (F 7))),
  (h 8, .inl (cI, 24, .inl (F 8))),
  (h 9, .inl (cI, 24, .inl (F 9))),
  (h 10, .inl (cI, 40, .inl (F 10))),
  (h 11, .inl (cI, 40, .inl (F 11))),
  (h 12, .inl (cI, 4, .inl (F 12))),
  (h 13, .inl (cI, 40, .inl (F 13))),
  (h 14, .inl (cI, 40, .inl (F 14))),
  (h 15, .inl (cI, 4, .inl (F 15))),
  (h 16, .inl (cI, 10050, .inl (F 16))),
  (h 17, .inl (cZ, 24, .inl (F 17))),
  (h 18, .inl (cI, 24, .inl (F 18))),
  (h 19, .inl (cJ, 12, .inr (.inl G))),
  (h 20, .inl (cI, 12, .inl (F 20))),
  (h 21, .inl (cI, 40, .inl (F 21)))]
/-- truth as an int -/
def bI (b : Bool) : Int32 := if b then 1 else 0
theorem bI_f {r : Int32} {b : Bool} (h : r = bI b) (c : r = 0) : b = false := by
  cases b with
  | false => rfl
  | true => rw [h] at c; exact absurd c (by decide)
theorem bI_t {r : Int32} {b : Bool} (h : r = bI b) (c : ¬ r = 0) : b = true := by
  cases b with
  | true => rfl
  | false => exact absurd h c
theorem bI_narrow (b : Bool) : narrow .boolean (.int (bI b)) = .int (bI b) := by cases b <;> decide
def eqI (a b : Int32) : Bool := decide (a = b)
def ltI (a b : Int32) : Bool := decide (a < b)
def isW (v a b : Int32) : Bool := !ltI v a && !ltI b v
theorem isW_nat {v : Int32} {M : Int32} {n : Nat} (hM : M.toInt = n) (h : isW v 0 M = true) : ∃ k : Nat, k ≤ n ∧ v = nI k := by
  simp only [isW, ltI, Bool.and_eq_true, Bool.not_eq_true', decide_eq_false_iff_not] at h
  exact nI_of2 hM h.1 (Int32.not_lt.mp h.2)
theorem isW_nat1 {v : Int32} {M : Int32} {n : Nat} (hM : M.toInt = n) (h : isW v 1 M = true) : ∃ k : Nat, k ≤ n ∧ v = nI k := by
  simp only [isW, ltI, Bool.and_eq_true, Bool.not_eq_true', decide_eq_false_iff_not] at h
  exact nI_of2 hM (fun q => h.1 (Int32.lt_trans q (by decide))) (Int32.not_lt.mp h.2)
theorem ltI_24 (v : Int32) : ltI 23 v = !ltI v 24 := by
  unfold ltI
  rw [← decide_not, decide_eq_decide, Int32.not_lt, Int32.lt_iff_toInt_lt, Int32.le_iff_toInt_le]
  rw [show (23 : Int32).toInt = 23 from by decide, show (24 : Int32).toInt = 24 from by decide]
  omega
theorem isW_none (v : Int32) : isW v 0 (-1) = false := by
  cases h : isW v 0 (-1) with
  | false => rfl
  | true =>
    simp only [isW, ltI, Bool.and_eq_true, Bool.not_eq_true', decide_eq_false_iff_not] at h
    exact absurd (Int32.lt_of_lt_of_le (show (-1 : Int32) < 0 by decide) (Int32.not_lt.mp h.1)) h.2
theorem isW_emp (v : Int32) : isW v 24 23 = false := by
  cases h : isW v 24 23 with
  | false => rfl
  | true =>
    simp only [isW, ltI, Bool.and_eq_true, Bool.not_eq_true', decide_eq_false_iff_not] at h
    exact absurd (Int32.lt_of_lt_of_le (show (23 : Int32) < 24 by decide) (Int32.not_lt.mp h.1)) h.2
theorem bI_fits (b : Bool) : fits .boolean (.int (bI b)) = true := by cases b <;> decide
theorem zshr (x : Int32) : (0 : Int32) >>> x = 0 := by
  apply Int32.toBitVec_inj.mp
  simp
theorem mm_min {a b : Nat} (ha : a < 2 ^ 31) (hb : b < 2 ^ 31) : (if nI b < nI a then nI b else nI a) = nI (min a b) := by
  by_cases h : b < a
  · rw [if_pos ((nI_ltI hb ha).mpr h), Nat.min_eq_right (Nat.le_of_lt h)]
  · rw [if_neg (fun q => h ((nI_ltI hb ha).mp q)), Nat.min_eq_left (Nat.le_of_not_lt h)]
theorem mm_max {a b : Nat} (ha : a < 2 ^ 31) (hb : b < 2 ^ 31) : (if nI a < nI b then nI b else nI a) = nI (max a b) := by
  by_cases h : a < b
  · rw [if_pos ((nI_ltI ha hb).mpr h), Nat.max_eq_right (Nat.le_of_lt h)]
  · rw [if_neg (fun q => h ((nI_ltI ha hb).mp q)), Nat.max_eq_left (Nat.le_of_not_lt h)]
theorem tsw (x : Int32) (lo n : Nat) (_ : n < 2 ^ 31) : (x.toInt < (lo : Int) ∨ (n : Int) < x.toInt) ∨ ∃ j, j < n + 1 - lo ∧ x.toInt = (lo : Int) + (j : Int) := by
  by_cases h : x.toInt < (lo : Int) ∨ (n : Int) < x.toInt
  · exact Or.inl h
  · refine Or.inr ⟨(x.toInt - lo).toNat, ?_, ?_⟩ <;> omega
