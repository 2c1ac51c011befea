/-! rows: array copies, the table K, new cells, constructors -/
section MS
variable {p : Program} {l : Launch} {e : Env} {R : Room} {s : State} {m : MethodId} {args : Array Value} {below : List Frame} {meth : Method} {c : Code} {H : Heap} {locs : List Loc} {cells slots : Nat} {Q : State → Prop}
variable {cc : ByteArray} {pc : Nat} {ls : Array Slot} {rest : List Value} {G : mg_} {M : mw_} {a nL : Nat} {ret : Option FieldType} {y : MethodName}
theorem mr_kget (C0 : cx_ G p s m args meth c cc nL ret y) (hS : va_S (fz_ G) s.heap H locs) (hy : y.cls = "PartsAccumulator$SerialPrimes") (hdg : decode cc pc = .ok (.getstatic 43, 3))
    (kk : W p l e R s m args below meth c H locs cells slots Q (F0 m (pc + 3) ls (.ref (gk G) :: rest))) : W p l e R s m args below meth c H locs cells slots Q (F0 m pc ls rest) :=
  va_gets C0.1 C0.2.1 C0.2.2.2.2.2.2.2.2.1.1 hS C0.2.2.2.2.2.1 (C0.2.2.2.2.2.2.1 _ (by rw [hy]; exact tw_269)) (fun _ h => h) hdg kk
theorem mr_kld (C0 : cx_ G p s m args meth c cc nL ret y) (hS : va_S (fz_ G) s.heap H locs) {x : Int32} (i : Nat) (hx : x = nI i) (hi : i < 64) (hdg : decode cc pc = .ok (.iaload, 1))
    (kk : W p l e R s m args below meth c H locs cells slots Q (F0 m (pc + 1) ls (.int (kt_ i) :: rest))) : W p l e R s m args below meth c H locs cells slots Q (F0 m pc ls (.int x :: .ref (gk G) :: rest)) :=
  va_ti C0.1 C0.2.1 C0.2.2.2.2.2.2.2.2.1.2 hS (mr_in hx hi (by omega)) (by rw [mr_cl hx hi (by omega)]) hdg kk
theorem mr_copy {cs cd cd' : Cell} {ty : FieldType} {a0 : Nat} {e0 e1 e1' : va_E} (C0 : cx_ G p s m args meth c cc nL ret y) (hls : ls.size = nL) {idx : Nat} (hw : Cond.methodLink y.cls idx arraycopyName ∈ tb_)
    (hM : mm_ G M H) (hS : va_S (fz_ G) s.heap H locs) (ha0 : M a0 = some e0) (ha1 : M a = some e1) (hcs : H[a0]? = some cs) (hcd : H[a]? = some cd)
    (g1 : ∀ k, cs.vm ≠ .statics k) (g2 : ∀ k, cd.vm ≠ .statics k) (g3 : cs.vm ≠ .unknown) (g4 : cd.vm ≠ .unknown) {k0 k1 : Class} {cm0 cm1 : ClassId} (hk0 : s.vm.classes[cs.cls]? = some k0) (hk1 : s.vm.classes[cd.cls]? = some k1) (hkk0 : k0.kind = .array cm0 ty) (hkk1 : k1.kind = .array cm1 ty) (hprim : refKind ty = false)
    {sp dp n : Int32} (h1 : ¬ sp < 0) (h2 : ¬ dp < 0) (h3 : ¬ n < 0) (h4 : sp.toNatClampNeg + n.toNatClampNeg ≤ cs.slots.size) (h5 : dp.toNatClampNeg + n.toNatClampNeg ≤ cd.slots.size)
    (hfit : ∀ i, i < n.toNatClampNeg → fits ty (cs.slots.getD (sp.toNatClampNeg + i) .null) = true) : True := trivial
end MS
