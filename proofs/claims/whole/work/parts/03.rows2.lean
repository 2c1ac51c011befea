/-! rows: array copies, the table K, new cells, constructors -/
section MS
variable {p : Program} {l : Launch} {e : Env} {R : Room} {s : State} {m : MethodId} {args : Array Value} {below : List Frame} {meth : Method} {c : Code} {H : Heap} {locs : List Loc} {cells slots : Nat} {Q : State → Prop}
variable {cc : ByteArray} {pc : Nat} {ls : Array Slot} {rest : List Value} {G : mg_} {M : mw_} {a nL : Nat} {ret : Option FieldType} {y : MethodName}
theorem mr_kget (C0 : cx_ G p s m args meth c cc nL ret y) (hS : va_S (fz_ G) s.heap H locs) (hy : y.cls = "PartsAccumulator$SerialPrimes") (hdg : decode cc pc = .ok (.getstatic 43, 3))
    (kk : W p l e R s m args below meth c H locs cells slots Q (F0 m (pc + 3) ls (.ref (gk G) :: rest))) : W p l e R s m args below meth c H locs cells slots Q (F0 m pc ls rest) :=
  va_gets C0.1 C0.2.1 C0.2.2.2.2.2.2.2.2.1.1 hS C0.2.2.2.2.2.1 (C0.2.2.2.2.2.2.1 _ (by rw [hy]; exact tw_269)) (fun _ h => h) hdg kk
theorem mr_kld (C0 : cx_ G p s m args meth c cc nL ret y) (hS : va_S (fz_ G) s.heap H locs) {x : Int32} (i : Nat) (hx : x = nI i) (hi : i < 64) (hdg : decode cc pc = .ok (.iaload, 1))
    (kk : W p l e R s m args below meth c H locs cells slots Q (F0 m (pc + 1) ls (.int (kt_ i) :: rest))) : W p l e R s m args below meth c H locs cells slots Q (F0 m pc ls (.int x :: .ref (gk G) :: rest)) :=
  va_ti C0.1 C0.2.1 C0.2.2.2.2.2.2.2.2.1.2 hS (mr_in hx hi (by omega)) (by rw [mr_cl hx hi (by omega)]) hdg kk
theorem mr_copyl (C0 : cx_ G p s m args meth c cc nL ret y) (hls : ls.size = nL) {idx : Nat} (hw : Cond.methodLink y.cls idx arraycopyName ∈ tb_)
    (hM : mm_ G M H) (hS : va_S (fz_ G) s.heap H locs) {a0 n0 n1 : Nat} {f g : Nat → Int64} (ha0 : M a0 = some (la_ G n0 f)) (ha1 : M a = some (la_ G n1 g)) {xs xd xn : Int32} (sp dp n : Nat) (es : xs = nI sp) (ed : xd = nI dp) (en : xn = nI n) (h4 : sp + n ≤ n0) (h5 : dp + n ≤ n1) (b0 : n0 < 2147483648) (b1 : n1 < 2147483648)
    (hframes : 1 ≤ R.frames) (hlocals : (rest.map fun v => v.category).sum + (nativeFrameWords "java/lang/System" "arraycopy" 5 + 11) ≤ R.locals) (hdg : decode cc pc = .ok (.invokestatic idx, 3))
    (kk : ∀ (H1 : Heap) (locs1 : List Loc), mm_ G (mu_ M a (la_ G n1 (va_cpy f g sp dp n))) H1 → va_S (fz_ G) s.heap H1 locs1 → W p l e R s m args below meth c H1 locs1 cells slots Q (F0 m (pc + 3) ls rest)) : W p l e R s m args below meth c H locs cells slots Q (F0 m pc ls (.int xn :: .int xd :: .ref a :: .int xs :: .ref a0 :: rest)) := by
  subst es; subst ed; subst en
  have c1 : (nI sp).toNatClampNeg = sp := nI_clamp (by omega)
  have c2 : (nI dp).toNatClampNeg = dp := nI_clamp (by omega)
  have c3 : (nI n).toNatClampNeg = n := nI_clamp (by omega)
  have i1 : (nI sp).toInt = (sp : Int) := nI_toInt (by omega)
  have i2 : (nI dp).toInt = (dp : Int) := nI_toInt (by omega)
  have i3 : (nI n).toInt = (n : Int) := nI_toInt (by omega)
  obtain ⟨hx, hb, -, -, hml, hown, hts, hK, -⟩ := C0
  have hK := hK.1
  intro T hT X
  have hc0 : H[a0]? = some (vp_cell (gL G) (n0, .inr (.inl f))) := (hM.2 a0 _ ha0).1
  have hc1 : H[a]? = some (vp_cell (gL G) (n1, .inr (.inl g))) := (hM.2 a _ ha1).1
  obtain ⟨-, k0, hk0, cm0, hkk0⟩ := (hK.2 1 _ rfl).1 n0 (fun j => .long (f j))
  obtain ⟨-, k1, hk1, cm1, hkk1⟩ := (hK.2 1 _ rfl).1 n1 (fun j => .long (g j))
  obtain ⟨vm', X', step⟩ := X.arraycopy hx hown (hts _ hw) (hts _ tw_182) (hts _ tw_181) (hts _ tw_8) (src := a0) (dst := a) (cs := vp_cell (gL G) (n0, .inr (.inl f))) (cd := vp_cell (gL G) (n1, .inr (.inl g))) (srcPos := nI sp) (destPos := nI dp) (n := nI n) (by rw [hT]; exact hc0) (by rw [hT]; exact hc1)
    (fun _ h => by cases h) (fun _ h => by cases h) (fun h => by cases h) (fun h => by cases h) hk0 hk1 hkk0 hkk1 (by simp [refKind]) (nI_pos (by omega)) (nI_pos (by omega)) (nI_pos (by omega))
    (by rw [i1, i3]; show ¬ _ > ((arrV (gL G) n0 (fun j => .long (f j))).slots.size : Int); rw [arrV_size]; omega)
    (by rw [i2, i3]; show ¬ _ > ((arrV (gL G) n1 (fun j => .long (g j))).slots.size : Int); rw [arrV_size]; omega)
    (fun vm₁ _ i hi => by
      rw [c3] at hi
      have e : (vp_cell (gL G) (n0, .inr (.inl f))).slots.getD ((nI sp).toNatClampNeg + i) .null = .long (f (sp + i)) := by
        show (arrV (gL G) n0 (fun j => .long (f j))).slots.getD _ _ = _
        rw [c1, Array.getD_eq_getD_getElem?, arrV_read _ _ (by omega)]
        rfl
      refine ⟨?_, ?_⟩
      · rw [e]
        rfl
      · rw [e]
        exact trivial)
    (g := F0 m pc ls (.int (nI n) :: .int (nI dp) :: .ref a :: .int (nI sp) :: .ref a0 :: rest)) rfl (by rw [hml]; exact hls) (rest := rest) rfl (by rw [hb]; exact hdg) hframes (by show 2 * 0 + _ + _ ≤ _; omega)
  have e1 : copied (vp_cell (gL G) (n0, .inr (.inl f))) (vp_cell (gL G) (n1, .inr (.inl g))) (nI sp) (nI dp) (nI n) = vp_cell (gL G) (n1, .inr (.inl (va_cpy f g sp dp n))) := by
    have h := va_copied (fun z => .long z) (gL G) (gL G) f g (sp := (nI sp).toNatClampNeg) (dp := (nI dp).toNatClampNeg) (n := (nI n).toNatClampNeg) (n0 := n0) (n1 := n1) (by rw [c1, c3]; exact h4)
    rw [show va_cpy f g sp dp n = va_cpy f g (nI sp).toNatClampNeg (nI dp).toNatClampNeg (nI n).toNatClampNeg by rw [c1, c2, c3]]
    exact h
  rw [e1] at X' step
  have hl : a < H.size := (Array.getElem?_eq_some_iff.mp hc1).1
  have hheap : ((T.setVm vm').setCell a (vp_cell (gL G) (n1, .inr (.inl (va_cpy f g sp dp n))))).heap = H.setIfInBounds a (vp_cell (gL G) (n1, .inr (.inl (va_cpy f g sp dp n)))) := by rw [← hT]; rfl
  have oq : ∀ q : Nat, q ≠ a → (H.setIfInBounds a (vp_cell (gL G) (n1, .inr (.inl (va_cpy f g sp dp n)))))[q]? = H[q]? := fun q hq => by simp [Array.getElem?_setIfInBounds, Ne.symm hq]
  obtain ⟨t, a1, b1⟩ := kk _ _ (hM.set ha1 (by simp) oq (show (H.setIfInBounds a _)[a]? = some _ by simp [Array.getElem?_setIfInBounds, hl])) ⟨by simp; exact hS.1, fun q g1 g2 => by
      rw [oq q (fun e => g2 (by rw [e]; exact (hM.2 a _ ha1).2))]
      exact hS.2.1 q g1 g2, fun q hq => by
      rcases List.mem_append.mp hq with h | h
      · exact hS.2.2 q h
      · obtain ⟨z, -, hz⟩ := List.mem_map.mp h
        rw [← hz]
        exact (hM.2 a _ ha1).2⟩ _ hheap X'
  exact ⟨t, step t a1, b1⟩
theorem mr_copyi (C0 : cx_ G p s m args meth c cc nL ret y) (hls : ls.size = nL) {idx : Nat} (hw : Cond.methodLink y.cls idx arraycopyName ∈ tb_)
    (hM : mm_ G M H) (hS : va_S (fz_ G) s.heap H locs) {a0 n0 n1 : Nat} {f g : Nat → Int32} (ha0 : M a0 = some (ia_ G n0 f)) (ha1 : M a = some (ia_ G n1 g)) {xs xd xn : Int32} (sp dp n : Nat) (es : xs = nI sp) (ed : xd = nI dp) (en : xn = nI n) (h4 : sp + n ≤ n0) (h5 : dp + n ≤ n1) (b0 : n0 < 2147483648) (b1 : n1 < 2147483648)
    (hframes : 1 ≤ R.frames) (hlocals : (rest.map fun v => v.category).sum + (nativeFrameWords "java/lang/System" "arraycopy" 5 + 11) ≤ R.locals) (hdg : decode cc pc = .ok (.invokestatic idx, 3))
    (kk : ∀ (H1 : Heap) (locs1 : List Loc), mm_ G (mu_ M a (ia_ G n1 (va_cpy f g sp dp n))) H1 → va_S (fz_ G) s.heap H1 locs1 → W p l e R s m args below meth c H1 locs1 cells slots Q (F0 m (pc + 3) ls rest)) : W p l e R s m args below meth c H locs cells slots Q (F0 m pc ls (.int xn :: .int xd :: .ref a :: .int xs :: .ref a0 :: rest)) := by
  subst es; subst ed; subst en
  have c1 : (nI sp).toNatClampNeg = sp := nI_clamp (by omega)
  have c2 : (nI dp).toNatClampNeg = dp := nI_clamp (by omega)
  have c3 : (nI n).toNatClampNeg = n := nI_clamp (by omega)
  have i1 : (nI sp).toInt = (sp : Int) := nI_toInt (by omega)
  have i2 : (nI dp).toInt = (dp : Int) := nI_toInt (by omega)
  have i3 : (nI n).toInt = (n : Int) := nI_toInt (by omega)
  obtain ⟨hx, hb, -, -, hml, hown, hts, hK, -⟩ := C0
  have hK := hK.1
  intro T hT X
  have hc0 : H[a0]? = some (vp_cell (gI G) (n0, .inl f)) := (hM.2 a0 _ ha0).1
  have hc1 : H[a]? = some (vp_cell (gI G) (n1, .inl g)) := (hM.2 a _ ha1).1
  obtain ⟨-, k0, hk0, cm0, hkk0⟩ := (hK.2 0 _ rfl).1 n0 (fun j => .int (f j))
  obtain ⟨-, k1, hk1, cm1, hkk1⟩ := (hK.2 0 _ rfl).1 n1 (fun j => .int (g j))
  obtain ⟨vm', X', step⟩ := X.arraycopy hx hown (hts _ hw) (hts _ tw_182) (hts _ tw_181) (hts _ tw_8) (src := a0) (dst := a) (cs := vp_cell (gI G) (n0, .inl f)) (cd := vp_cell (gI G) (n1, .inl g)) (srcPos := nI sp) (destPos := nI dp) (n := nI n) (by rw [hT]; exact hc0) (by rw [hT]; exact hc1)
    (fun _ h => by cases h) (fun _ h => by cases h) (fun h => by cases h) (fun h => by cases h) hk0 hk1 hkk0 hkk1 (by simp [refKind]) (nI_pos (by omega)) (nI_pos (by omega)) (nI_pos (by omega))
    (by rw [i1, i3]; show ¬ _ > ((arrV (gI G) n0 (fun j => .int (f j))).slots.size : Int); rw [arrV_size]; omega)
    (by rw [i2, i3]; show ¬ _ > ((arrV (gI G) n1 (fun j => .int (g j))).slots.size : Int); rw [arrV_size]; omega)
    (fun vm₁ _ i hi => by
      rw [c3] at hi
      have e : (vp_cell (gI G) (n0, .inl f)).slots.getD ((nI sp).toNatClampNeg + i) .null = .int (f (sp + i)) := by
        show (arrV (gI G) n0 (fun j => .int (f j))).slots.getD _ _ = _
        rw [c1, Array.getD_eq_getD_getElem?, arrV_read _ _ (by omega)]
        rfl
      refine ⟨?_, ?_⟩
      · rw [e]
        rfl
      · rw [e]
        exact trivial)
    (g := F0 m pc ls (.int (nI n) :: .int (nI dp) :: .ref a :: .int (nI sp) :: .ref a0 :: rest)) rfl (by rw [hml]; exact hls) (rest := rest) rfl (by rw [hb]; exact hdg) hframes (by show 2 * 0 + _ + _ ≤ _; omega)
  have e1 : copied (vp_cell (gI G) (n0, .inl f)) (vp_cell (gI G) (n1, .inl g)) (nI sp) (nI dp) (nI n) = vp_cell (gI G) (n1, .inl (va_cpy f g sp dp n)) := by
    have h := va_copied (fun z => .int z) (gI G) (gI G) f g (sp := (nI sp).toNatClampNeg) (dp := (nI dp).toNatClampNeg) (n := (nI n).toNatClampNeg) (n0 := n0) (n1 := n1) (by rw [c1, c3]; exact h4)
    rw [show va_cpy f g sp dp n = va_cpy f g (nI sp).toNatClampNeg (nI dp).toNatClampNeg (nI n).toNatClampNeg by rw [c1, c2, c3]]
    exact h
  rw [e1] at X' step
  have hl : a < H.size := (Array.getElem?_eq_some_iff.mp hc1).1
  have hheap : ((T.setVm vm').setCell a (vp_cell (gI G) (n1, .inl (va_cpy f g sp dp n)))).heap = H.setIfInBounds a (vp_cell (gI G) (n1, .inl (va_cpy f g sp dp n))) := by rw [← hT]; rfl
  have oq : ∀ q : Nat, q ≠ a → (H.setIfInBounds a (vp_cell (gI G) (n1, .inl (va_cpy f g sp dp n))))[q]? = H[q]? := fun q hq => by simp [Array.getElem?_setIfInBounds, Ne.symm hq]
  obtain ⟨t, a1, b1⟩ := kk _ _ (hM.set ha1 (by simp) oq (show (H.setIfInBounds a _)[a]? = some _ by simp [Array.getElem?_setIfInBounds, hl])) ⟨by simp; exact hS.1, fun q g1 g2 => by
      rw [oq q (fun e => g2 (by rw [e]; exact (hM.2 a _ ha1).2))]
      exact hS.2.1 q g1 g2, fun q hq => by
      rcases List.mem_append.mp hq with h | h
      · exact hS.2.2 q h
      · obtain ⟨z, -, hz⟩ := List.mem_map.mp h
        rw [← hz]
        exact (hM.2 a _ ha1).2⟩ _ hheap X'
  exact ⟨t, step t a1, b1⟩
theorem mr_newa {ty : FieldType} {atype : ArrayType} (t0 : Nat) {cA : ClassId} (C0 : cx_ G p s m args meth c cc nL ret y) (hM : mm_ G M H) (hS : va_S (fz_ G) s.heap H locs) (hty : newarray.typeOf atype = ty) (hw : Cond.arrayClass ty ∈ tb_) (ht : ([(gI G, .int), (gL G, .long), (gE G, .object "PartsAccumulator$Epoch")] : List (ClassId × FieldType))[t0]? = some (cA, ty)) (hra : ∀ c1 c2 : ClassId, va_RA s c1 ty → s.vm.findClass ("[" ++ ty.toString) = some c2 → c1 = c2)
    {x : Int32} (N : Nat) (hx : x = nI N) (hN : N < 1000) {a0 : vp_A} (ha : ∀ cA : ClassId, vp_cell cA a0 = arrV cA N (fun _ => defaultValue ty)) (hcb : componentBytes ty ≤ 8) (hcells : cells + 1 ≤ R.cells) (hslots : slots + N ≤ R.slots) (hdg : decode cc pc = .ok (.newarray atype, 2))
    (kk : ∀ (H1 : Heap), mm_ G (mu_ M H.size (.inl (cA, a0))) H1 → va_S (fz_ G) s.heap H1 locs → W p l e R s m args below meth c H1 locs (cells + 1) (slots + N) Q (F0 m (pc + 2) ls (.ref H.size :: rest))) : W p l e R s m args below meth c H locs cells slots Q (F0 m pc ls (.int x :: rest)) := by
  subst hty
  subst hx
  have hb2 : N * componentBytes (newarray.typeOf atype) ≤ 536870912 := Nat.le_trans (Nat.mul_le_mul (Nat.le_of_lt hN) hcb) (by decide)
  refine va_newaK C0.1 C0.2.1 (C0.2.2.2.2.2.2.1 _ hw) rfl hdg rfl (nI_pos (by omega)) (nI_clamp (by omega)) hb2 hcells hslots rfl fun H1 cA' e1 z1 o1 hAr hNm => ?_
  have hcc : cA = cA' := hra _ _ (C0.2.2.2.2.2.2.2.1.1.2 t0 _ ht).2 hNm
  subst hcc
  refine kk H1 (hM.push z1 o1 ?_) ⟨Nat.le_trans hS.1 (by omega), fun x h1 h2 => (o1 x (Nat.lt_of_lt_of_le h1 hS.1)).trans (hS.2.1 x h1 h2), hS.2.2⟩
  show H1[H.size]? = some (vp_cell _ _)
  rw [ha]
  exact e1
theorem mr_newl (C0 : cx_ G p s m args meth c cc nL ret y) (hM : mm_ G M H) (hS : va_S (fz_ G) s.heap H locs) {x : Int32} (N : Nat) (hx : x = nI N) (hN : N < 1000) (hcells : cells + 1 ≤ R.cells) (hslots : slots + N ≤ R.slots) (hdg : decode cc pc = .ok (.newarray .long, 2))
    (kk : ∀ (H1 : Heap), mm_ G (mu_ M H.size (la_ G N (fun _ => 0))) H1 → va_S (fz_ G) s.heap H1 locs → W p l e R s m args below meth c H1 locs (cells + 1) (slots + N) Q (F0 m (pc + 2) ls (.ref H.size :: rest))) : W p l e R s m args below meth c H locs cells slots Q (F0 m pc ls (.int x :: rest)) :=
  mr_newa (ty := .long) 1 C0 hM hS rfl tw_72 rfl (fun _ _ h1 h2 => Option.some.inj (h1.symm.trans h2)) N hx hN (a0 := (N, .inr (.inl (fun _ => 0)))) (fun _ => rfl) (by decide) hcells hslots hdg kk
theorem mr_newi (C0 : cx_ G p s m args meth c cc nL ret y) (hM : mm_ G M H) (hS : va_S (fz_ G) s.heap H locs) {x : Int32} (N : Nat) (hx : x = nI N) (hN : N < 1000) (hcells : cells + 1 ≤ R.cells) (hslots : slots + N ≤ R.slots) (hdg : decode cc pc = .ok (.newarray .int, 2))
    (kk : ∀ (H1 : Heap), mm_ G (mu_ M H.size (ia_ G N (fun _ => 0))) H1 → va_S (fz_ G) s.heap H1 locs → W p l e R s m args below meth c H1 locs (cells + 1) (slots + N) Q (F0 m (pc + 2) ls (.ref H.size :: rest))) : W p l e R s m args below meth c H locs cells slots Q (F0 m pc ls (.int x :: rest)) :=
  mr_newa (ty := .int) 0 C0 hM hS rfl tw_28 rfl (fun _ _ h1 h2 => Option.some.inj (h1.symm.trans h2)) N hx hN (a0 := (N, .inl (fun _ => 0))) (fun _ => rfl) (by decide) hcells hslots hdg kk
theorem mr_newo {idx ci N : Nat} {C : String} {T : u_T} {ty0 : Nat → FieldType} {fs : List Value} (C0 : cx_ G p s m args meth c cc nL ret y) (hM : mm_ G M H) (hS : va_S (fz_ G) s.heap H locs) (hc : cl_[ci]? = some (C, T, N)) (hin : ∀ w ∈ u_ws C T N, w ∈ tb_) (hty : ∀ k, k < N → parseFieldDescriptor (T k).2.2.1 = some (ty0 k)) (hcl : Cond.classLink y.cls idx C ∈ tb_) (hinst : Cond.instantiable C N ∈ tb_) (hini : Cond.initialized C ∈ tb_) (hfs : ∀ j, j < N → defaultValue (ty0 j) = vp_V fs j) (hcells : cells + 1 ≤ R.cells) (hslots : slots + N ≤ R.slots) (hdg : decode cc pc = .ok (.new idx, 3))
    (kk : ∀ (H1 : Heap), mm_ G (mu_ M H.size (ob_ ci fs)) H1 → va_S (fz_ G) s.heap H1 locs → W p l e R s m args below meth c H1 locs (cells + 1) (slots + N) Q (F0 m (pc + 3) ls (.ref H.size :: rest))) : W p l e R s m args below meth c H locs cells slots Q (F0 m pc ls rest) := by
  obtain ⟨hx, hb, -, -, -, hown, hts, hK, -⟩ := C0
  have hKn := hK.1.1 ci _ hc
  refine W.newcK hx hb hown (hts _ hcl) (hts _ hinst) (hts _ hini) rfl hdg hcells hslots hKn.2.1 rfl fun H1 kC hkC e1 z1 o1 => ?_
  exact kk H1 (hM.push z1 o1 ⟨_, hc, (u_born ty0 hts hin hKn hkC e1 hty).to hfs⟩) ⟨Nat.le_trans hS.1 (by omega), fun x h1 h2 => (o1 x (Nat.lt_of_lt_of_le h1 hS.1)).trans (hS.2.1 x h1 h2), hS.2.2⟩
theorem mr_objInit (C0 : cx_ G p s m args meth c cc nL ret y) {idx : Nat} (hw : Cond.methodLink y.cls idx objectInit ∈ tb_) (hls : ls.size = nL) (hframes : 1 ≤ R.frames) (hlocals : (rest.map fun v => v.category).sum + 12 ≤ R.locals) (hdg : decode cc pc = .ok (.invokespecial idx, 3))
    (kk : W p l e R s m args below meth c H locs cells slots Q (F0 m (pc + 3) ls rest)) : W p l e R s m args below meth c H locs cells slots Q (F0 m pc ls (.ref a :: rest)) := by
  obtain ⟨hx, hb, -, -, hml, hown, hts, -⟩ := C0
  refine W.objInit hx hb hown (hts _ hw) (hts _ tw_16) (hts _ tw_17) rfl (by rw [hml]; exact hls) rfl hdg hframes (by show 2 * 0 + _ + _ ≤ _; omega) ?_
  exact W.eq rfl kk
theorem mr_callI {y' : MethodName} {cd : ByteArray} {nL' idx n mc ms : Nat} {host : String} {rm : Room} {As : List Value} {post : Option Value → mw_ → Prop} (C0 : cx_ G p s m args meth c cc nL ret y) (hM : mm_ G M H) (hS : va_S (fz_ G) s.heap H locs) (hcode : Cond.code y' cd nL' none ∈ tb_) (hnw : va_Nw (.methodLinkNest y.cls idx y' host) s) (hini : Cond.initialized y'.cls ∈ tb_) (hin : Cond.instanceMethod y' ∈ tb_) (hd : y'.cls ≠ "java/lang/invoke/MethodHandle" ∧ y'.cls ≠ "java/lang/invoke/VarHandle" ∧ (parseMethodDescriptor y'.desc).map (fun d => d.parameters.length) = some n) (hyn : y'.name = "<init>") (hMet : ct_ l y' cd nL' none rm G (.ref a :: As) M post mc ms) (hn : As.length = n) {st0 : List Value} (hst : st0 = As.reverse ++ .ref a :: rest) (hls : ls.size = nL) (hW : (rest.map fun v => v.category).sum ≤ 8) (hrc : rm.cells = mc) (hrs : rm.slots = ms) (hR : rm.frames + 1 ≤ R.frames ∧ 8 + (nL' + 11) + rm.locals ≤ R.locals) (hf : cells + mc ≤ R.cells ∧ slots + ms ≤ R.slots) (hdg : decode cc pc = .ok (.invokespecial idx, 3))
    (kk : ∀ (v : Option Value) (M1 : mw_) (H1 : Heap) (locs1 : List Loc), post v M1 → mm_ G M1 H1 → va_S (fz_ G) s.heap H1 locs1 → W p l e R s m args below meth c H1 locs1 (cells + mc) (slots + ms) Q (F0 m (pc + 3) ls (v.toList ++ rest))) : W p l e R s m args below meth c H locs cells slots Q (F0 m pc ls st0) := by
  have hts := C0.2.2.2.2.2.2.1
  exact mr_run (g := F0 m pc ls st0) (va_runIN (cc := cc) (nL := nL) (own := y.cls) (host := host) (index := idx) (bytes := cd) (maxL := nL') (n := n) ⟨C0.1, C0.2.1, C0.2.2.2.2.1, C0.2.2.2.2.2.1, hts⟩ hMet ⟨va_cnB n hts (tb_good hcode (fun _ h => h)) rfl hrc hrs hnw (hts _ hini) hd hR, hyn, hts _ hin⟩ (mr_pre C0 hM hS (.ref a :: As)) rfl hn hls hst (by show 2 * 0 + _ ≤ 8; omega) hdg hf) hS kk
theorem mr_lif_eq (hexec : p.tables.exec = Jvm.exec) (hb : c.code = cc) {x y : Int64} {off : Int} {tgt : Nat} (hd0 : decode cc pc = .ok (.lcmp, 1)) (hdg : decode cc (pc + 1) = .ok (.ifCond .eq off, 3)) (ht : ((pc + 1 : Nat) : Int) + off = (tgt : Int))
    (kt : x = y → W p l e R s m args below meth c H locs cells slots Q (F0 m tgt ls rest)) (kf : ¬ (x = y) → W p l e R s m args below meth c H locs cells slots Q (F0 m (pc + 4) ls rest)) : W p l e R s m args below meth c H locs cells slots Q (F0 m pc ls (.long y :: .long x :: rest)) :=
  W.lcmp hexec hb hd0 (lv_if_eq hexec hb hdg ht (fun h => kt ((lg_cmp_eq x y).mp h)) (fun h => kf (fun q => h ((lg_cmp_eq x y).mpr q))))
theorem mr_lif_ne (hexec : p.tables.exec = Jvm.exec) (hb : c.code = cc) {x y : Int64} {off : Int} {tgt : Nat} (hd0 : decode cc pc = .ok (.lcmp, 1)) (hdg : decode cc (pc + 1) = .ok (.ifCond .ne off, 3)) (ht : ((pc + 1 : Nat) : Int) + off = (tgt : Int))
    (kt : ¬ x = y → W p l e R s m args below meth c H locs cells slots Q (F0 m tgt ls rest)) (kf : x = y → W p l e R s m args below meth c H locs cells slots Q (F0 m (pc + 4) ls rest)) : W p l e R s m args below meth c H locs cells slots Q (F0 m pc ls (.long y :: .long x :: rest)) :=
  W.lcmp hexec hb hd0 (lv_if_ne hexec hb hdg ht (fun h => kt (fun q => h ((lg_cmp_eq x y).mpr q))) (fun h => kf ((lg_cmp_eq x y).mp h)))
theorem mr_lif_lt (hexec : p.tables.exec = Jvm.exec) (hb : c.code = cc) {x y : Int64} {off : Int} {tgt : Nat} (hd0 : decode cc pc = .ok (.lcmp, 1)) (hdg : decode cc (pc + 1) = .ok (.ifCond .lt off, 3)) (ht : ((pc + 1 : Nat) : Int) + off = (tgt : Int))
    (kt : x < y → W p l e R s m args below meth c H locs cells slots Q (F0 m tgt ls rest)) (kf : ¬ (x < y) → W p l e R s m args below meth c H locs cells slots Q (F0 m (pc + 4) ls rest)) : W p l e R s m args below meth c H locs cells slots Q (F0 m pc ls (.long y :: .long x :: rest)) :=
  W.lcmp hexec hb hd0 (lv_if_lt hexec hb hdg ht (fun h => kt ((lg_cmp_lt x y).mp h)) (fun h => kf (fun q => h ((lg_cmp_lt x y).mpr q))))
theorem mr_lif_ge (hexec : p.tables.exec = Jvm.exec) (hb : c.code = cc) {x y : Int64} {off : Int} {tgt : Nat} (hd0 : decode cc pc = .ok (.lcmp, 1)) (hdg : decode cc (pc + 1) = .ok (.ifCond .ge off, 3)) (ht : ((pc + 1 : Nat) : Int) + off = (tgt : Int))
    (kt : y ≤ x → W p l e R s m args below meth c H locs cells slots Q (F0 m tgt ls rest)) (kf : ¬ (y ≤ x) → W p l e R s m args below meth c H locs cells slots Q (F0 m (pc + 4) ls rest)) : W p l e R s m args below meth c H locs cells slots Q (F0 m pc ls (.long y :: .long x :: rest)) :=
  W.lcmp hexec hb hd0 (lv_if_ge hexec hb hdg ht (fun h => kt ((lg_cmp_ge x y).mp h)) (fun h => kf (fun q => h ((lg_cmp_ge x y).mpr q))))
theorem mr_lif_gt (hexec : p.tables.exec = Jvm.exec) (hb : c.code = cc) {x y : Int64} {off : Int} {tgt : Nat} (hd0 : decode cc pc = .ok (.lcmp, 1)) (hdg : decode cc (pc + 1) = .ok (.ifCond .gt off, 3)) (ht : ((pc + 1 : Nat) : Int) + off = (tgt : Int))
    (kt : y < x → W p l e R s m args below meth c H locs cells slots Q (F0 m tgt ls rest)) (kf : ¬ (y < x) → W p l e R s m args below meth c H locs cells slots Q (F0 m (pc + 4) ls rest)) : W p l e R s m args below meth c H locs cells slots Q (F0 m pc ls (.long y :: .long x :: rest)) :=
  W.lcmp hexec hb hd0 (lv_if_gt hexec hb hdg ht (fun h => kt ((lg_cmp_gt x y).mp h)) (fun h => kf (fun q => h ((lg_cmp_gt x y).mpr q))))
theorem mr_lif_le (hexec : p.tables.exec = Jvm.exec) (hb : c.code = cc) {x y : Int64} {off : Int} {tgt : Nat} (hd0 : decode cc pc = .ok (.lcmp, 1)) (hdg : decode cc (pc + 1) = .ok (.ifCond .le off, 3)) (ht : ((pc + 1 : Nat) : Int) + off = (tgt : Int))
    (kt : x ≤ y → W p l e R s m args below meth c H locs cells slots Q (F0 m tgt ls rest)) (kf : ¬ (x ≤ y) → W p l e R s m args below meth c H locs cells slots Q (F0 m (pc + 4) ls rest)) : W p l e R s m args below meth c H locs cells slots Q (F0 m pc ls (.long y :: .long x :: rest)) :=
  W.lcmp hexec hb hd0 (lv_if_le hexec hb hdg ht (fun h => kt ((lg_cmp_le x y).mp h)) (fun h => kf (fun q => h ((lg_cmp_le x y).mpr q))))
theorem ct_.intro2 {l : Launch} {y : MethodName} {cd : ByteArray} {nL : Nat} {ret : Option FieldType} {rm : Room} {G : mg_} {As : List Value} {M : mw_} {post : Option Value → mw_ → Prop} {mc ms : Nat} (hy : plainName y.cls = true) (hn : (lg_sl As).length ≤ nL)
    (body : ∀ p e s m args below meth c ls R Q, R = rm → (∀ q, (MQ below (qx_ G post) args s mc ms (fz_ G)) q = Q q) → cx_ G p s m args meth c cd nL ret y → lv_has ls nL (lv_args 0 As) → mm_ G M s.heap → va_S (fz_ G) s.heap s.heap [] → W p l e R s m args below meth c s.heap [] 0 0 Q (F0 m 0 ls [])) : ct_ l y cd nL ret rm G As M post mc ms :=
  ct_.intro hy hn (fun p e s m args below meth c ls a1 a2 a3 a4 => body p e s m args below meth c ls rm _ rfl (fun _ => rfl) a1 a2 a3 a4)
theorem mr_ret {Q' : State → Prop} {g : JFrame} (hQ : ∀ q, Q' q = Q q) (k : W p l e R s m args below meth c H locs cells slots Q' g) : W p l e R s m args below meth c H locs cells slots Q g := by
  have h : Q' = Q := funext hQ
  rw [← h]; exact k
abbrev ius_ (x y : Int32) : Int32 := (x.toUInt32 >>> (y.toUInt32 &&& Int32.toUInt32 31)).toInt32
abbrev lus_ (x : Int64) (y : Int32) : Int64 := (x.toUInt64 >>> (y.toInt64.toUInt64 &&& Int64.toUInt64 63)).toInt64
abbrev lsl_ (x : Int64) (y : Int32) : Int64 := x <<< (y.toInt64 &&& 63)
abbrev lsr_ (x : Int64) (y : Int32) : Int64 := x >>> (y.toInt64 &&& 63)
abbrev isl_ (x y : Int32) : Int32 := x <<< (y &&& 31)
abbrev isr_ (x y : Int32) : Int32 := x >>> (y &&& 31)
abbrev irm_ (x y : Int32) : Int32 := x - x / y * y
abbrev lrm_ (x y : Int64) : Int64 := x - x / y * y
theorem inc_ (i : Nat) : nI i + Int32.ofInt 1 = nI (i + 1) := nI_1 i
theorem dec_ {i : Nat} (h : 0 < i) : nI i + Int32.ofInt (-1) = nI (i - 1) := sb_m1 h
theorem le_nI {a b : Nat} (h : a ≤ b) (ha : a < 2147483648) (hb : b < 2147483648) : nI a ≤ nI b := (nI_leI ha hb).mpr h
theorem nle_nI {a b : Nat} (h : b < a) (ha : a < 2147483648) (hb : b < 2147483648) : ¬ nI a ≤ nI b := fun q => absurd ((nI_leI ha hb).mp q) (by omega)
theorem lt_nI {a b : Nat} (h : a < b) (ha : a < 2147483648) (hb : b < 2147483648) : nI a < nI b := (nI_ltI ha hb).mpr h
theorem nlt_nI {a b : Nat} (h : b ≤ a) (ha : a < 2147483648) (hb : b < 2147483648) : ¬ nI a < nI b := fun q => absurd ((nI_ltI ha hb).mp q) (by omega)
theorem ne_nI {a b : Nat} (h : a ≠ b) (ha : a < 2147483648) (hb : b < 2147483648) : ¬ nI a = nI b := fun q => h ((nI_eq ha hb).mp q)
theorem z_nlt {a : Nat} (ha : a < 2147483648) : ¬ nI a < 0 := nI_pos ha
theorem z_le {a : Nat} (ha : a < 2147483648) : 0 ≤ nI a := nI_pos' ha
theorem z_m1 : (-1 : Int32) < 0 := by decide
end MS
