/-! a memory as a map of addresses; contracts over the whole known memory; rows for each instruction that reads or writes it -/
abbrev mg_ : Type := va_G × ClassId × ClassId × ClassId × Nat × Nat
abbrev gD (G : mg_) : va_G := G.1
abbrev gI (G : mg_) : ClassId := G.2.1
abbrev gL (G : mg_) : ClassId := G.2.2.1
abbrev gE (G : mg_) : ClassId := G.2.2.2.1
abbrev gz (G : mg_) : Nat := G.2.2.2.2.1
abbrev gk (G : mg_) : Nat := G.2.2.2.2.2
abbrev mw_ : Type := Nat → Option va_E
def mu_ (M : mw_) (a : Nat) (e : va_E) : mw_ := fun q => if q = a then some e else M q
theorem mu_s {M : mw_} {a : Nat} {e : va_E} : mu_ M a e a = some e := if_pos rfl
theorem mu_n {M : mw_} {a b : Nat} {e : va_E} (h : b ≠ a) : mu_ M a e b = M b := if_neg h
theorem mu_n' {M : mw_} {a b : Nat} {e : va_E} {x : Option va_E} (h : b ≠ a) (k : M b = x) : mu_ M a e b = x := (mu_n h).trans k
theorem mu_mu {M : mw_} {a : Nat} {e f : va_E} : mu_ (mu_ M a e) a f = mu_ M a f := by
  funext q
  by_cases h : q = a <;> simp [mu_, h]
theorem mu_id {M : mw_} {a : Nat} {e : va_E} (h : M a = some e) : mu_ M a e = M := by
  funext q
  by_cases hq : q = a
  · subst hq; simp [mu_, h]
  · simp [mu_, hq]
theorem mu_sw {M : mw_} {a b : Nat} {e f : va_E} (h : a ≠ b) : mu_ (mu_ M a e) b f = mu_ (mu_ M b f) a e := by
  funext q
  by_cases h1 : q = a
  · subst h1; simp [mu_, h]
  · simp [mu_, h1]
theorem mu_c2 {M : mw_} {a b : Nat} {e e' f : va_E} (h : a ≠ b) : mu_ (mu_ (mu_ M a e) b f) a e' = mu_ (mu_ M a e') b f := by
  rw [← mu_sw h, mu_mu]
theorem mu_c3 {M : mw_} {a b c : Nat} {e e' f g : va_E} (h : a ≠ b) (h2 : a ≠ c) : mu_ (mu_ (mu_ (mu_ M a e) b f) c g) a e' = mu_ (mu_ (mu_ M a e') b f) c g := by
  rw [← mu_sw h2, mu_c2 h]
abbrev ia_ (G : mg_) (n : Nat) (f : Nat → Int32) : va_E := .inl (gI G, n, .inl f)
abbrev la_ (G : mg_) (n : Nat) (f : Nat → Int64) : va_E := .inl (gL G, n, .inr (.inl f))
abbrev qa_ (G : mg_) (n : Nat) (f : Nat → Option Nat) : va_E := .inl (gE G, n, .inr (.inr (.inr (.inr f))))
abbrev ob_ (ci : Nat) (fs : List Value) : va_E := .inr (ci, fs)
def fz_ (G : mg_) : Nat → Prop := fun q => gz G ≤ q
def mm_ (G : mg_) (M : mw_) (H : Heap) : Prop := gz G ≤ H.size ∧ ∀ a e, M a = some e → va_at (gD G) cl_ (a, e) H ∧ gz G ≤ a
theorem mm_.P {G : mg_} {M : mw_} {H : Heap} (h : mm_ G M H) {a : Nat} {e : va_E} (ha : M a = some e) : va_P (gD G) cl_ [(a, e)] H := by
  intro k q hk
  match k, hk with
  | 0, hk => cases hk; exact (h.2 a e ha).1
theorem mm_.set {G : mg_} {M : mw_} {H H1 : Heap} {a : Nat} {e0 e : va_E} (h : mm_ G M H) (ha : M a = some e0) (z : H1.size = H.size) (oq : ∀ q : Nat, q ≠ a → H1[q]? = H[q]?) (he : va_at (gD G) cl_ (a, e) H1) : mm_ G (mu_ M a e) H1 := by
  refine ⟨by rw [z]; exact h.1, fun b f hb => ?_⟩
  by_cases hq : b = a
  · subst hq
    rw [mu_s] at hb
    cases hb
    exact ⟨he, (h.2 b e0 ha).2⟩
  · rw [mu_n hq] at hb
    exact ⟨(h.2 b f hb).1.kept (oq b hq), (h.2 b f hb).2⟩
theorem mm_.fresh {G : mg_} {M : mw_} {H : Heap} (h : mm_ G M H) : M H.size = none := by
  cases hq : M H.size with
  | none => rfl
  | some e => exact absurd (h.2 _ _ hq).1.lt (Nat.lt_irrefl _)
theorem mm_.push {G : mg_} {M : mw_} {H H1 : Heap} {e : va_E} (h : mm_ G M H) (z : H1.size = H.size + 1) (oq : ∀ q : Nat, q < H.size → H1[q]? = H[q]?) (he : va_at (gD G) cl_ (H.size, e) H1) : mm_ G (mu_ M H.size e) H1 := by
  refine ⟨by rw [z]; exact Nat.le_succ_of_le h.1, fun b f hb => ?_⟩
  by_cases hq : b = H.size
  · subst hq
    rw [mu_s] at hb
    cases hb
    exact ⟨he, h.1⟩
  · rw [mu_n hq] at hb
    exact ⟨(h.2 b f hb).1.kept (oq b (h.2 b f hb).1.lt), (h.2 b f hb).2⟩
def kt_ (j : Nat) : Int32 := ([1116352408, 1899447441, -1245643825, -373957723, 961987163, 1508970993, -1841331548, -1424204075, -670586216, 310598401, 607225278, 1426881987, 1925078388, -2132889090, -1680079193, -1046744716, -459576895, -272742522, 264347078, 604807628, 770255983, 1249150122, 1555081692, 1996064986, -1740746414, -1473132947, -1341970488, -1084653625, -958395405, -710438585, 113926993, 338241895, 666307205, 773529912, 1294757372, 1396182291, 1695183700, 1986661051, -2117940946, -1838011259, -1564481375, -1474664885, -1035236496, -949202525, -778901479, -694614492, -200395387, 275423344, 430227734, 506948616, 659060556, 883997877, 958139571, 1322822218, 1537002063, 1747873779, 1955562222, 2024104815, -2067236844, -1933114872, -1866530822, -1538233109, -1090935817, -965641998] : List Int32).getD j 0
def ks_ (G : mg_) (s : State) : Prop := va_K (gD G) cl_ [(gI G, .int), (gL G, .long), (gE G, .object "PartsAccumulator$Epoch")] s ∧ va_Nw (.methodLinkNest "PartsAccumulator" 9 my_S_init "PartsAccumulator") s ∧ va_Nw (.methodLinkNest "PartsAccumulator" 18 my_R_init "PartsAccumulator") s ∧ va_Nw (.methodLinkNest "PartsAccumulator" 25 my_T_init "PartsAccumulator") s ∧ va_Nw (.methodLinkNest "PartsAccumulator" 36 my_E_init "PartsAccumulator") s ∧ va_Nw (.methodLinkNest "PartsAccumulator" 49 my_N_init "PartsAccumulator") s ∧ va_Nw (.methodLinkNest "PartsAccumulator$Epoch" 9 my_T_init "PartsAccumulator") s ∧ va_AO "PartsAccumulator$Epoch" s
def kz_ (G : mg_) (s : State) (H : Heap) : Prop := va_Z "PartsAccumulator$SerialPrimes" "K" "[I" (.ref (gk G)) (fz_ G) s H ∧ va_T .int (gk G) 64 (fun j => .int (kt_ j)) (fz_ G) s H
theorem ks_.warm {G : mg_} {s U : State} (hW : s.WarmedH U.vm) (h : ks_ G s) : ks_ G U := by
  obtain ⟨h1, h2, h3, h4, h5, h6, h7, h8⟩ := h
  exact ⟨va_K.moved hW.alike h1, va_Nw.warmM hW h2, va_Nw.warmM hW h3, va_Nw.warmM hW h4, va_Nw.warmM hW h5, va_Nw.warmM hW h6, va_Nw.warmM hW h7, va_AO.moved hW.alike h8⟩
theorem ks_.same {G : mg_} {s U : State} (hv : s.vm = U.vm) (h : ks_ G s) : ks_ G U := by
  obtain ⟨h1, h2, h3, h4, h5, h6, h7, h8⟩ := h
  have hA : s.vm.Alike U.vm := by rw [hv]; exact Vm.Alike.refl _
  exact ⟨va_K.moved hA h1, va_Nw.same rfl hv h2, va_Nw.same rfl hv h3, va_Nw.same rfl hv h4, va_Nw.same rfl hv h5, va_Nw.same rfl hv h6, va_Nw.same rfl hv h7, va_AO.moved hA h8⟩
theorem kz_.moved {G : mg_} {s U : State} {H : Heap} (hA : s.vm.Alike U.vm) (h : kz_ G s H) : kz_ G U H := ⟨va_Z.moved hA h.1, va_T.moved hA h.2⟩
theorem kz_.kept {G : mg_} {s : State} {H H1 : Heap} (h : kz_ G s H) (hq : ∀ a : Nat, a < H.size → ¬ fz_ G a → H1[a]? = H[a]?) : kz_ G s H1 := ⟨va_Z.kept h.1 hq, va_T.kept h.2 hq⟩
def pc_ (G : mg_) (As : List Value) (M : mw_) : Array Value → State → Prop := fun v U => v = As.toArray ∧ ks_ G U ∧ kz_ G U U.heap ∧ mm_ G M U.heap
def qx_ (G : mg_) (post : Option Value → mw_ → Prop) : Array Value → State → Outcome → State → Prop := fun _ st oc t => ∃ (v : Option Value) (M1 : mw_), oc = .returned v ∧ post v M1 ∧ mm_ G M1 t.heap ∧ va_F (fz_ G) st t
/-- a contract: from every heap that holds the memory M the method returns, and the heap holds the memory M1, 'post answer M1' -/
def ct_ (l : Launch) (y : MethodName) (cd : ByteArray) (nL : Nat) (ret : Option FieldType) (rm : Room) (G : mg_) (As : List Value) (M : mw_) (post : Option Value → mw_ → Prop) (mc ms : Nat) : Prop := Met l y (Cond.code y cd nL ret :: tb_) rm (pc_ G As M) (qx_ G post) mc ms (fz_ G)
abbrev dt_ (l : Launch) (y : MethodName) (cd : ByteArray) (nL : Nat) (ret : Option FieldType) (rm : Room) (G : mg_) (As : List Value) (M : mw_) (v0 : Option Value) (M1 : mw_) (mc ms : Nat) : Prop := ct_ l y cd nL ret rm G As M (fun v M' => v = v0 ∧ M' = M1) mc ms
theorem pc_blind {G : mg_} {As : List Value} {M : mw_} : FrameBlind (pc_ G As M) := by
  intro a U g mk h
  obtain ⟨h1, h2, h3, h4⟩ := h
  exact ⟨h1, ks_.same (U := U.calling g mk a) rfl h2, kz_.moved (U := U.calling g mk a) (Vm.Alike.refl U.vm) h3, h4⟩
/-- what a method's body stands on -/
def cx_ (G : mg_) (p : Program) (s : State) (m : MethodId) (args : Array Value) (meth : Method) (c : Code) (cc : ByteArray) (nL : Nat) (ret : Option FieldType) (y : MethodName) : Prop :=
  p.tables.exec = Jvm.exec ∧ c.code = cc ∧ meth.sig.returnType = ret ∧ meth.locks = false ∧ c.maxLocals = nL ∧ s.vm.findClass y.cls = some m.cls ∧ (∀ w ∈ tb_, w.before args s = true) ∧ ks_ G s ∧ kz_ G s s.heap ∧ meth.name = y.name
theorem ct_.intro {l : Launch} {y : MethodName} {cd : ByteArray} {nL : Nat} {ret : Option FieldType} {rm : Room} {G : mg_} {As : List Value} {M : mw_} {post : Option Value → mw_ → Prop} {mc ms : Nat} (hy : plainName y.cls = true) (hn : (lg_sl As).length ≤ nL)
    (body : ∀ p e s m args below meth c ls, cx_ G p s m args meth c cd nL ret y → lv_has ls nL (lv_args 0 As) → mm_ G M s.heap → va_S (fz_ G) s.heap s.heap [] → W p l e rm s m args below meth c s.heap [] 0 0 (MQ below (qx_ G post) args s mc ms (fz_ G)) (F0 m 0 ls [])) : ct_ l y cd nL ret rm G As M post mc ms := by
  refine Met.ofW (cc := cd) (maxL := nL) (ret := ret) hy rfl ?_
  intro p e s m args below meth c s₁ B hml hv
  obtain ⟨rfl, h1, h2, h3⟩ := hv
  have hts := atoms_spec (ws := Cond.code y cd nL ret :: tb_) B.pre
  have hl := lv_entry As (n := nL) hn
  rw [lg_entry_eq]
  exact body p e s m _ below meth c _ ⟨B.exec, B.bytes, B.returns, B.notSynchronized, hml, findClass_of_methodNamed B.named, fun w hw => hts w (List.mem_cons_of_mem _ hw), h1, h2, (name_of_methodNamed B.named B.method).1⟩ hl h3 va_S.rf
def fl_ok (own : String) (idx ci : Nat) (C : String) (T : u_T) (N k : Nat) : Prop := cl_[ci]? = some (C, T, N) ∧ (∀ w ∈ u_ws C T N, w ∈ tb_) ∧ k < N ∧ Cond.fieldLink own idx C (T k).2.1 (T k).2.2.1 ∈ tb_ ∧ (T k).1 = C
def fp_ok (C : String) (T : u_T) (N k : Nat) (ty0 : Nat → FieldType) (ty : FieldType) : Prop := (∀ k, k < N → parseFieldDescriptor (T k).2.2.1 = some (ty0 k)) ∧ (∀ a, a < N → ∀ b, b < N → a ≠ b → (T a).2.1 ≠ (T b).2.1) ∧ parseFieldDescriptor (T k).2.2.1 = some ty
/-- call words -/
def vk_ok (own : String) (idx : Nat) (y : MethodName) (cd : ByteArray) (nL : Nat) (ret : Option FieldType) (n : Nat) : Prop := Cond.code y cd nL ret ∈ tb_ ∧ Cond.methodLink own idx y ∈ tb_ ∧ Cond.instanceMethod y ∈ tb_ ∧ Cond.selects y.cls y y ∈ tb_ ∧ Cond.initialized y.cls ∈ tb_ ∧ y.cls ≠ "java/lang/invoke/MethodHandle" ∧ y.cls ≠ "java/lang/invoke/VarHandle" ∧ (parseMethodDescriptor y.desc).map (fun d => d.parameters.length) = some n
def sk_ok (own : String) (idx : Nat) (y : MethodName) (cd : ByteArray) (nL : Nat) (ret : Option FieldType) (n : Nat) : Prop := Cond.code y cd nL ret ∈ tb_ ∧ Cond.methodLink own idx y ∈ tb_ ∧ Cond.static y ∈ tb_ ∧ Cond.initialized y.cls ∈ tb_ ∧ y.cls ≠ "java/lang/invoke/MethodHandle" ∧ y.cls ≠ "java/lang/invoke/VarHandle" ∧ (parseMethodDescriptor y.desc).map (fun d => d.parameters.length) = some n
section MR
variable {p : Program} {l : Launch} {e : Env} {R : Room} {s : State} {m : MethodId} {args : Array Value} {below : List Frame} {meth : Method} {c : Code} {H : Heap} {locs : List Loc} {cells slots : Nat} {Q : State → Prop}
variable {cc : ByteArray} {pc : Nat} {ls : Array Slot} {rest : List Value} {G : mg_} {M : mw_} {a nL : Nat} {ret : Option FieldType} {y : MethodName}
theorem mr_get (C0 : cx_ G p s m args meth c cc nL ret y) (hM : mm_ G M H) {idx ci N k : Nat} {C : String} {T : u_T} (hf : fl_ok y.cls idx ci C T N k) {fs : List Value} {v : Value} (ha : M a = some (ob_ ci fs)) (hv : fs[k]? = some v) (hdg : decode cc pc = .ok (.getfield idx, 3))
    (kk : W p l e R s m args below meth c H locs cells slots Q (F0 m (pc + 3) ls (v :: rest))) : W p l e R s m args below meth c H locs cells slots Q (F0 m pc ls (.ref a :: rest)) := by
  obtain ⟨hx, hb, -, -, -, hown, hts, hk, -⟩ := C0
  obtain ⟨f1, f2, f3, f4, f5⟩ := hf
  exact va_get hx hb hts f2 hown hk.1 (hM.P ha) 0 rfl f1 k f3 (hts _ f4) (fun x h => by rw [f5] at h; exact h) hv hdg kk
theorem mr_put (C0 : cx_ G p s m args meth c cc nL ret y) (hM : mm_ G M H) (hS : va_S (fz_ G) s.heap H locs) {idx ci N k : Nat} {C : String} {T : u_T} (hf : fl_ok y.cls idx ci C T N k) {ty0 : Nat → FieldType} {ty : FieldType} (hp : fp_ok C T N k ty0 ty) {fs : List Value} {v : Value} (ha : M a = some (ob_ ci fs)) (hfin : (T k).2.2.2 = false) (hn : narrow ty v = v) (hfit : fits ty v = true) (hl : k < fs.length) (hdg : decode cc pc = .ok (.putfield idx, 3))
    (kk : ∀ (H1 : Heap) (locs1 : List Loc), mm_ G (mu_ M a (ob_ ci (fs.set k v))) H1 → va_S (fz_ G) s.heap H1 locs1 → W p l e R s m args below meth c H1 locs1 cells slots Q (F0 m (pc + 3) ls rest)) : W p l e R s m args below meth c H locs cells slots Q (F0 m pc ls (v :: .ref a :: rest)) := by
  obtain ⟨hx, hb, -, -, -, hown, hts, hK, -⟩ := C0
  obtain ⟨hc, hin, hk, hlink, hT⟩ := hf
  obtain ⟨hty, hnm, hd⟩ := hp
  have hK := hK.1
  have hap := va_apart (own := y.cls) hts hin ty0 hty hnm hK hc
  obtain ⟨r, h1, cell, q1, q2, q3, q4⟩ := (hM.2 a _ ha).1
  have hr : r = (C, T, N) := Option.some.inj (h1.symm.trans hc)
  subst hr
  obtain ⟨hS0, hfc, kC, hkC, hkind⟩ := hK.1 ci _ hc
  obtain ⟨cf, kf, fi, f, hi, hsl⟩ := hS0 k hk
  have hlay := hts _ (hin _ (u_in_lay hk))
  unfold u_lay at hlay
  rw [if_neg (by rw [hfin]; decide)] at hlay
  have hst := (u_facts hfc hkC (u_lays hts hin hk) hi).1
  have h6 := u_store hfc hkC hkind hlay hi hd hn hfit
  refine W.putK hx hb (f := f) ⟨hown, hts _ hlink, ⟨_, _, _, by rw [← hT]; exact hi⟩, hst⟩ (by rw [q2]; exact h6) q1 q3 (by rw [hsl]; exact k2_hasslot (q4 k hk)) rfl rfl hdg fun H' e1 e2 e3 => ?_
  rw [hsl] at e1 ⊢
  exact kk H' _ (hM.set ha e2 e3 ⟨_, hc, t_OB.to (V := updV (vp_V fs) k v) ⟨_, e1, q2, q3, t_set q4 hap hk v⟩ (fun j _ => vp_updV_set hl v j)⟩) (hS.put e2 e3 (hM.2 a _ ha).2)
theorem mr_putF (C0 : cx_ G p s m args meth c cc nL ret y) (hM : mm_ G M H) (hS : va_S (fz_ G) s.heap H locs) {idx ci N k : Nat} {C : String} {T : u_T} (hf : fl_ok y.cls idx ci C T N k) {ty0 : Nat → FieldType} {ty : FieldType} (hp : fp_ok C T N k ty0 ty) {fs : List Value} {v : Value} (ha : M a = some (ob_ ci fs)) (hyn : y.name = "<init>") (hC : C = y.cls) (hfin : (T k).2.2.2 = true) (hn : narrow ty v = v) (hfit : fits ty v = true) (hl : k < fs.length) (hdg : decode cc pc = .ok (.putfield idx, 3))
    (kk : ∀ (H1 : Heap) (locs1 : List Loc), mm_ G (mu_ M a (ob_ ci (fs.set k v))) H1 → va_S (fz_ G) s.heap H1 locs1 → W p l e R s m args below meth c H1 locs1 cells slots Q (F0 m (pc + 3) ls rest)) : W p l e R s m args below meth c H locs cells slots Q (F0 m pc ls (v :: .ref a :: rest)) := by
  obtain ⟨hx, hb, -, -, -, hown, hts, hK, -, hnm0⟩ := C0
  obtain ⟨hc, hin, hk, hlink, hT⟩ := hf
  obtain ⟨hty, hnm, hd⟩ := hp
  have hK := hK.1
  have hap := va_apart (own := y.cls) hts hin ty0 hty hnm hK hc
  obtain ⟨r, h1, cell, q1, q2, q3, q4⟩ := (hM.2 a _ ha).1
  have hr : r = (C, T, N) := Option.some.inj (h1.symm.trans hc)
  subst hr
  obtain ⟨hS0, hfc, kC, hkC, hkind⟩ := hK.1 ci _ hc
  obtain ⟨cf, kf, fi, f, hi, hsl⟩ := hS0 k hk
  have hst := (u_facts hfc hkC (u_lays hts hin hk) hi).1
  have h6 := u_fits hfc hkC hkind (u_lays hts hin hk) hi hd hn hfit
  have hlay := hts _ (hin _ (u_in_lay hk))
  unfold u_lay at hlay
  rw [if_pos hfin] at hlay
  have hcf : m.cls = cf := by
    obtain ⟨_, _, c', _, _, _, -, -, hf', -, -, -, hown2, -⟩ := Cond.laysFinal_spec hlay
    have e1 : c' = cf := by have := hi.symm.trans hf'; simp at this; exact this.1.symm
    rw [hT, hC] at hown2
    rw [← e1]; exact Option.some.inj (hown.symm.trans hown2)
  refine W.putFinK hx hb (f := f) hown (hts _ hlink) (by rw [← hT]; exact hi) hst hcf (hnm0.trans hyn) (by rw [q2]; exact h6) q1 q3 (by rw [hsl]; exact k2_hasslot (q4 k hk)) rfl rfl hdg fun H' e1 e2 e3 => ?_
  rw [hsl] at e1 ⊢
  exact kk H' _ (hM.set ha e2 e3 ⟨_, hc, t_OB.to (V := updV (vp_V fs) k v) ⟨_, e1, q2, q3, t_set q4 hap hk v⟩ (fun j _ => vp_updV_set hl v j)⟩) (hS.put e2 e3 (hM.2 a _ ha).2)
theorem mr_in {x : Int32} {i n : Nat} (hx : x = nI i) (hi : i < n) (hn : n < 2147483648) : vp_in x n := by
  subst hx; exact vp_in_nI hi hn
theorem mr_cl {x : Int32} {i n : Nat} (hx : x = nI i) (hi : i < n) (hn : n < 2147483648) : x.toNatClampNeg = i := by
  subst hx; exact nI_clamp (Nat.lt_trans hi hn)
theorem mr_iald (C0 : cx_ G p s m args meth c cc nL ret y) (hM : mm_ G M H) {n : Nat} {f : Nat → Int32} (ha : M a = some (ia_ G n f)) {x : Int32} (i : Nat) (hx : x = nI i) (hi : i < n) (hn : n < 2147483648) (hdg : decode cc pc = .ok (.iaload, 1))
    (kk : W p l e R s m args below meth c H locs cells slots Q (F0 m (pc + 1) ls (.int (f i) :: rest))) : W p l e R s m args below meth c H locs cells slots Q (F0 m pc ls (.int x :: .ref a :: rest)) := by
  refine va_iald C0.1 C0.2.1 C0.2.2.2.2.2.2.2.1.1 (hM.P ha) 0 0 rfl rfl (mr_in hx hi hn) hdg ?_
  rw [mr_cl hx hi hn]; exact kk
theorem mr_lald (C0 : cx_ G p s m args meth c cc nL ret y) (hM : mm_ G M H) {n : Nat} {f : Nat → Int64} (ha : M a = some (la_ G n f)) {x : Int32} (i : Nat) (hx : x = nI i) (hi : i < n) (hn : n < 2147483648) (hdg : decode cc pc = .ok (.laload, 1))
    (kk : W p l e R s m args below meth c H locs cells slots Q (F0 m (pc + 1) ls (.long (f i) :: rest))) : W p l e R s m args below meth c H locs cells slots Q (F0 m pc ls (.int x :: .ref a :: rest)) := by
  refine va_lald C0.1 C0.2.1 C0.2.2.2.2.2.2.2.1.1 (hM.P ha) 0 1 rfl rfl (mr_in hx hi hn) hdg ?_
  rw [mr_cl hx hi hn]; exact kk
theorem mr_aald (C0 : cx_ G p s m args meth c cc nL ret y) (hM : mm_ G M H) {n : Nat} {f : Nat → Option Nat} (ha : M a = some (qa_ G n f)) {x : Int32} (i : Nat) {b : Nat} (hfb : f i = some b) (hx : x = nI i) (hi : i < n) (hn : n < 2147483648) (hdg : decode cc pc = .ok (.aaload, 1))
    (kk : W p l e R s m args below meth c H locs cells slots Q (F0 m (pc + 1) ls (.ref b :: rest))) : W p l e R s m args below meth c H locs cells slots Q (F0 m pc ls (.int x :: .ref a :: rest)) := by
  refine va_aldq C0.1 C0.2.1 C0.2.2.2.2.2.2.2.1.1 (hM.P ha) 0 2 rfl rfl (mr_in hx hi hn) hdg ?_
  rw [mr_cl hx hi hn, hfb]; exact kk
theorem mr_iast (C0 : cx_ G p s m args meth c cc nL ret y) (hM : mm_ G M H) (hS : va_S (fz_ G) s.heap H locs) {n : Nat} {f : Nat → Int32} (ha : M a = some (ia_ G n f)) {x v : Int32} (i : Nat) (hx : x = nI i) (hi : i < n) (hn : n < 2147483648) (hdg : decode cc pc = .ok (.iastore, 1))
    (kk : ∀ (H1 : Heap) (locs1 : List Loc), mm_ G (mu_ M a (ia_ G n (upd f i v))) H1 → va_S (fz_ G) s.heap H1 locs1 → W p l e R s m args below meth c H1 locs1 cells slots Q (F0 m (pc + 1) ls rest)) : W p l e R s m args below meth c H locs cells slots Q (F0 m pc ls (.int v :: .int x :: .ref a :: rest)) := by
  have hin := mr_in hx hi hn
  have hcl := mr_cl hx hi hn
  refine W.iast C0.1 C0.2.1 (hM.2 a _ ha).1 ((C0.2.2.2.2.2.2.2.1.1.2 0 _ rfl).1 n (fun j => .int (f j))) (fun q => by cases q) (by show ¬ (x < 0 ∨ (arrV _ _ _).slots.size ≤ _); rw [arrV_size]; exact hin) rfl rfl hdg fun H1 e z oq => ?_
  refine kk H1 _ (hM.set ha z oq ?_) (hS.put z oq (hM.2 a _ ha).2)
  show H1[a]? = some (vp_cell _ _)
  rw [e, hcl]
  rw [vp_cell_i, vp_cell_i, arrV_store]
  congr 2
  funext q
  by_cases hq : q = i
  · subst hq
    simp [updV, upd]
  · simp [updV, upd, hq]
theorem mr_last (C0 : cx_ G p s m args meth c cc nL ret y) (hM : mm_ G M H) (hS : va_S (fz_ G) s.heap H locs) {n : Nat} {f : Nat → Int64} (ha : M a = some (la_ G n f)) {x : Int32} {v : Int64} (i : Nat) (hx : x = nI i) (hi : i < n) (hn : n < 2147483648) (hdg : decode cc pc = .ok (.lastore, 1))
    (kk : ∀ (H1 : Heap) (locs1 : List Loc), mm_ G (mu_ M a (la_ G n (vp_updL f i v))) H1 → va_S (fz_ G) s.heap H1 locs1 → W p l e R s m args below meth c H1 locs1 cells slots Q (F0 m (pc + 1) ls rest)) : W p l e R s m args below meth c H locs cells slots Q (F0 m pc ls (.long v :: .int x :: .ref a :: rest)) := by
  have hin := mr_in hx hi hn
  have hcl := mr_cl hx hi hn
  refine W.last C0.1 C0.2.1 (hM.2 a _ ha).1 ((C0.2.2.2.2.2.2.2.1.1.2 1 _ rfl).1 n (fun j => .long (f j))) (fun q => by cases q) (by show ¬ (x < 0 ∨ (arrV _ _ _).slots.size ≤ _); rw [arrV_size]; exact hin) rfl rfl hdg fun H1 e z oq => ?_
  refine kk H1 _ (hM.set ha z oq ?_) (hS.put z oq (hM.2 a _ ha).2)
  show H1[a]? = some (vp_cell _ _)
  rw [e, hcl]
  rw [vp_cell_l, vp_cell_l, arrV_store]
  congr 2
  funext q
  by_cases hq : q = i
  · subst hq
    simp [updV, vp_updL]
  · simp [updV, vp_updL, hq]
theorem mr_alen (C0 : cx_ G p s m args meth c cc nL ret y) (hM : mm_ G M H) (t0 : Nat) {cA : ClassId} {x : vp_A} (ha : M a = some (.inl (cA, x))) {ty : FieldType} (ht : ([(gI G, .int), (gL G, .long), (gE G, .object "PartsAccumulator$Epoch")] : List (ClassId × FieldType))[t0]? = some (cA, ty)) {n : Nat} (hv : x.1 = n) (hdg : decode cc pc = .ok (.arraylength, 1))
    (kk : W p l e R s m args below meth c H locs cells slots Q (F0 m (pc + 1) ls (.int (nI n) :: rest))) : W p l e R s m args below meth c H locs cells slots Q (F0 m pc ls (.ref a :: rest)) := by
  subst hv
  exact va_alen C0.1 C0.2.1 C0.2.2.2.2.2.2.2.1.1 (hM.P ha) 0 t0 rfl ht rfl hdg kk
theorem mr_vi {x x' : Int32} (h : x = x') (k : W p l e R s m args below meth c H locs cells slots Q (F0 m pc ls (.int x' :: rest))) : W p l e R s m args below meth c H locs cells slots Q (F0 m pc ls (.int x :: rest)) := by rw [h]; exact k
theorem mr_vl {x x' : Int64} (h : x = x') (k : W p l e R s m args below meth c H locs cells slots Q (F0 m pc ls (.long x' :: rest))) : W p l e R s m args below meth c H locs cells slots Q (F0 m pc ls (.long x :: rest)) := by rw [h]; exact k
theorem mr_v2 {b : Value} {x x' : Int32} (h : x = x') (k : W p l e R s m args below meth c H locs cells slots Q (F0 m pc ls (b :: .int x' :: rest))) : W p l e R s m args below meth c H locs cells slots Q (F0 m pc ls (b :: .int x :: rest)) := by rw [h]; exact k
theorem mr_M {M' : mw_} (h : M = M') (hM : mm_ G M H) : mm_ G M' H := h ▸ hM
theorem mr_ldc (C0 : cx_ G p s m args meth c cc nL ret y) {idx : Nat} {v : Int32} (hw : Cond.constant y.cls idx v ∈ tb_) (hdg : decode cc pc = .ok (.ldc idx, 2)) (k : W p l e R s m args below meth c H locs cells slots Q (F0 m (pc + 2) ls (.int v :: rest))) : W p l e R s m args below meth c H locs cells slots Q (F0 m pc ls rest) := lv_ldc C0.1 C0.2.1 C0.2.2.2.2.2.1 (C0.2.2.2.2.2.2.1 _ hw) hdg k
theorem mr_ldc2 (C0 : cx_ G p s m args meth c cc nL ret y) {idx : Nat} {v : Int64} (hw : Cond.constantLong y.cls idx v ∈ tb_) (hdg : decode cc pc = .ok (.ldc2_w idx, 3)) (k : W p l e R s m args below meth c H locs cells slots Q (F0 m (pc + 3) ls (.long v :: rest))) : W p l e R s m args below meth c H locs cells slots Q (F0 m pc ls rest) := lv_ldc2 C0.1 C0.2.1 C0.2.2.2.2.2.1 (C0.2.2.2.2.2.2.1 _ hw) hdg k
theorem mr_iret {post : Option Value → mw_ → Prop} {v : Int32} {ty : FieldType} (C0 : cx_ G p s m args meth c cc nL (some ty) y) (hM : mm_ G M H) (hS : va_S (fz_ G) s.heap H locs) (hn : narrow ty (.int v) = .int v) (hp : post (some (.int v)) M) (hdg : decode cc pc = .ok (.ireturn, 1)) : W p l e R s m args below meth c H locs cells slots (MQ below (qx_ G post) args s cells slots (fz_ G)) (F0 m pc ls [.int v]) :=
  W.zret C0.1 C0.2.1 C0.2.2.1 hn (fun t ht _ => ⟨_, M, rfl, hp, by rw [ht]; exact hM, hS.F ht⟩) hS.2.2 hdg C0.2.2.2.1
theorem mr_lret {post : Option Value → mw_ → Prop} {v : Int64} (C0 : cx_ G p s m args meth c cc nL (some .long) y) (hM : mm_ G M H) (hS : va_S (fz_ G) s.heap H locs) (hp : post (some (.long v)) M) (hdg : decode cc pc = .ok (.lreturn, 1)) : W p l e R s m args below meth c H locs cells slots (MQ below (qx_ G post) args s cells slots (fz_ G)) (F0 m pc ls [.long v]) :=
  W.lret C0.1 C0.2.1 C0.2.2.1 (fun t ht _ => ⟨_, M, rfl, hp, by rw [ht]; exact hM, hS.F ht⟩) hS.2.2 hdg C0.2.2.2.1
theorem mr_vret {post : Option Value → mw_ → Prop} (C0 : cx_ G p s m args meth c cc nL none y) (hM : mm_ G M H) (hS : va_S (fz_ G) s.heap H locs) (hp : post none M) (hdg : decode cc pc = .ok (.return_, 1)) : W p l e R s m args below meth c H locs cells slots (MQ below (qx_ G post) args s cells slots (fz_ G)) (F0 m pc ls []) :=
  W.vret C0.1 C0.2.1 C0.2.2.1 (fun t ht _ => ⟨_, M, rfl, hp, by rw [ht]; exact hM, hS.F ht⟩) hS.2.2 hdg C0.2.2.2.1
theorem mr_pre (C0 : cx_ G p s m args meth c cc nL ret y) (hM : mm_ G M H) (hS : va_S (fz_ G) s.heap H locs) (As : List Value) : PreS s H (pc_ G As M) As :=
  ⟨pc_blind, fun U hU hW => ⟨rfl, ks_.warm hW C0.2.2.2.2.2.2.2.1, by rw [hU]; exact kz_.moved hW.alike (kz_.kept C0.2.2.2.2.2.2.2.2.1 hS.2.1), by rw [hU]; exact hM⟩⟩
/-- behind any call -/
theorem mr_run {g : JFrame} {rest : List Value} {post : Option Value → mw_ → Prop} {a : Array Value} {mc ms : Nat} (hr : va_Run p l e R s m args below meth c H locs cells slots mc ms (F0 m pc ls g.stack) rest (qx_ G post a) (fz_ G)) (hS : va_S (fz_ G) s.heap H locs)
    (kk : ∀ (v : Option Value) (M1 : mw_) (H1 : Heap) (locs1 : List Loc), post v M1 → mm_ G M1 H1 → va_S (fz_ G) s.heap H1 locs1 → W p l e R s m args below meth c H1 locs1 (cells + mc) (slots + ms) Q (F0 m (pc + 3) ls (v.toList ++ rest))) : W p l e R s m args below meth c H locs cells slots Q (F0 m pc ls g.stack) := by
  intro T hT X
  obtain ⟨v, st₀, t, T', L, h0, X', hL, e1, e2, ⟨v', M1, hv, hp, hm, hz, hk⟩, st⟩ := hr T hT X
  cases hv
  rw [h0] at hz hk
  obtain ⟨t2, a1, b1⟩ := kk v M1 T'.heap (locs ++ L) hp (by rw [e1]; exact hm)
    ⟨Nat.le_trans hS.1 (by rw [e1]; exact hz), fun q h1 h2 => by rw [e1, hk q (Nat.lt_of_lt_of_le h1 hS.1) h2]; exact hS.2.1 q h1 h2, fun q hq => by
      rcases List.mem_append.mp hq with h | h
      · exact hS.2.2 q h
      · exact hL q h⟩ T' rfl X'
  exact ⟨t2, st t2 a1, b1⟩
theorem mr_callS {y' : MethodName} {cd : ByteArray} {nL' idx n mc ms : Nat} {ret' : Option FieldType} {rm : Room} {As : List Value} {post : Option Value → mw_ → Prop} (C0 : cx_ G p s m args meth c cc nL ret y) (hM : mm_ G M H) (hS : va_S (fz_ G) s.heap H locs) (hk : sk_ok y.cls idx y' cd nL' ret' n) (hMet : ct_ l y' cd nL' ret' rm G As M post mc ms) (hn : As.length = n) {st0 : List Value} (hst : st0 = As.reverse ++ rest) (hls : ls.size = nL) (hW : (rest.map fun v => v.category).sum ≤ 8) (hrc : rm.cells = mc) (hrs : rm.slots = ms) (hR : rm.frames + 1 ≤ R.frames ∧ 8 + (nL' + 11) + rm.locals ≤ R.locals) (hf : cells + mc ≤ R.cells ∧ slots + ms ≤ R.slots) (hdg : decode cc pc = .ok (.invokestatic idx, 3))
    (kk : ∀ (v : Option Value) (M1 : mw_) (H1 : Heap) (locs1 : List Loc), post v M1 → mm_ G M1 H1 → va_S (fz_ G) s.heap H1 locs1 → W p l e R s m args below meth c H1 locs1 (cells + mc) (slots + ms) Q (F0 m (pc + 3) ls (v.toList ++ rest))) : W p l e R s m args below meth c H locs cells slots Q (F0 m pc ls st0) := by
  obtain ⟨k1, k2, k3, k4, k5, k6, k7⟩ := hk
  have hts := C0.2.2.2.2.2.2.1
  exact mr_run (g := F0 m pc ls st0) (va_runS (cc := cc) (nL := nL) (own := y.cls) (index := idx) (bytes := cd) (maxL := nL') (ret := ret') (n := n) ⟨C0.1, C0.2.1, C0.2.2.2.2.1, C0.2.2.2.2.2.1, hts⟩ hMet ⟨callB_of n hts (tb_good k1 (fun _ h => h)) rfl hrc hrs (hts _ k4) (hts _ k2) ⟨k5, k6, k7⟩ hR, hts _ k3⟩ (mr_pre C0 hM hS As) rfl hn hls hst (by show 2 * 0 + _ ≤ 8; omega) hdg hf) hS kk
theorem mr_recv (C0 : cx_ G p s m args meth c cc nL ret y) (hM : mm_ G M H) {ci : Nat} {fs : List Value} {C : String} {T : u_T} {N : Nat} (ha : M a = some (ob_ ci fs)) (hc : cl_[ci]? = some (C, T, N)) : ∃ cellB : Cell, H[a]? = some cellB ∧ cellB.vm.isStatics = false ∧ s.vm.findClass C = some cellB.cls :=
  va_recv (q := (C, T, N)) C0.2.2.2.2.2.2.2.1.1 (hM.P ha) (q0 := 0) hc rfl
theorem mr_callV {y' : MethodName} {cd : ByteArray} {nL' idx n mc ms ci N : Nat} {ret' : Option FieldType} {rm : Room} {As fs : List Value} {T : u_T} {post : Option Value → mw_ → Prop} (C0 : cx_ G p s m args meth c cc nL ret y) (hM : mm_ G M H) (hS : va_S (fz_ G) s.heap H locs) (hk : vk_ok y.cls idx y' cd nL' ret' n) (ha : M a = some (ob_ ci fs)) (hc : cl_[ci]? = some (y'.cls, T, N)) (hMet : ct_ l y' cd nL' ret' rm G (.ref a :: As) M post mc ms) (hn : As.length = n) {st0 : List Value} (hst : st0 = As.reverse ++ .ref a :: rest) (hls : ls.size = nL) (hW : (rest.map fun v => v.category).sum ≤ 8) (hrc : rm.cells = mc) (hrs : rm.slots = ms) (hR : rm.frames + 1 ≤ R.frames ∧ 8 + (nL' + 11) + rm.locals ≤ R.locals) (hf : cells + mc ≤ R.cells ∧ slots + ms ≤ R.slots) (hdg : decode cc pc = .ok (.invokevirtual idx, 3))
    (kk : ∀ (v : Option Value) (M1 : mw_) (H1 : Heap) (locs1 : List Loc), post v M1 → mm_ G M1 H1 → va_S (fz_ G) s.heap H1 locs1 → W p l e R s m args below meth c H1 locs1 (cells + mc) (slots + ms) Q (F0 m (pc + 3) ls (v.toList ++ rest))) : W p l e R s m args below meth c H locs cells slots Q (F0 m pc ls st0) := by
  obtain ⟨k1, k2, k3, k4, k5, k6, k7, k8⟩ := hk
  have hts := C0.2.2.2.2.2.2.1
  have hpre := mr_pre C0 hM hS (.ref a :: As)
  exact mr_run (g := F0 m pc ls st0) (va_runV (cc := cc) (nL := nL) (own := y.cls) (C := y'.cls) (index := idx) (bytes := cd) (maxL := nL') (ret := ret') (n := n) ⟨C0.1, C0.2.1, C0.2.2.2.2.1, C0.2.2.2.2.2.1, hts⟩ hMet ⟨callB_of n hts (tb_good k1 (fun _ h => h)) rfl hrc hrs (hts _ k5) (hts _ k2) ⟨k6, k7, k8⟩ hR, hts _ k3, hts _ k4⟩ ⟨hpre.1, mr_recv C0 hM ha hc, hpre.2⟩ rfl hn hls hst (by show 2 * 0 + _ ≤ 8; omega) hdg hf) hS kk
end MR
