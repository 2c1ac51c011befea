/-! THE CLAIM OUT OF ONE WALK OF THE LAW'S BODY. Your part is whole_start (and what it stands on); all else here is the same for every law, but numbers. -/
def R_law : String := "PartsAccumulatorLaw"
def lw_P (b : Addr) (xs : List Int32) (args : Array Value) (s : State) : Prop := args = #[.ref b] ∧ s.IntsAt b xs ∧ xs.length ≤ 3072 ∧ (Jvm.Cond.and given_1 narrow_1).before args s = true
def lw_Q (_ : Array Value) (s : State) (o : Outcome) (t : State) : Prop := o = .returned (some (.int 1)) ∧ Framed s o t [] 600000 7302250
def lw_Z (below : List Frame) (a : Array Value) (s : State) : State → Prop := fun t => ∃ o, t.status = .running ∧ Ended t below o ∧ lw_Q a s o t
/-- the law's own end, with 1 on the stack, nothing written that was there before, its room as the claim has it -/
theorem lw_ret {p : Program} {l : Launch} {e : Env} {s : State} {m : MethodId} {below : List Frame} {meth : Method} {c : Code} {b : Nat} (hx : p.tables.exec = Jvm.exec) (hb : c.code = code) (hr : meth.sig.returnType = ret) (hlocks : meth.locks = false) {pc : Nat} {H : Heap} {ls : Array Slot} (hdg : decode code pc = .ok (.ireturn, 1)) : W p l e room_1 s m #[Value.ref b] below meth c H [] 600000 7302250 (lw_Z below #[Value.ref b] s) (F0 m pc ls [.int 1]) := by
  intro T hT X
  obtain ⟨fs, hret, hrun, hended, hW, hframe⟩ := X.leave (v := some (.int 1)) (hlocks := hlocks) (fun h => by rw [hr] at h; cases h)
  have hmeth' : T.vm.method? m = some meth := X.method'
  refine ⟨T.setFrames fs, ?_, .returned (some (.int 1)), hrun, hended, rfl, ⟨_, rfl⟩, hW, hframe⟩
  jvm_step X.here [X.here.top, hx, hb, hdg, hmeth', hr, ret, narrow_b1]
  (try refine ⟨rfl, ?_⟩); (try refine ⟨rfl, ?_⟩)
  first | (intro acts; rw [hret _ acts rfl rfl rfl]) | rw [hret _ _ rfl rfl rfl]
  exact Steps.refl _
/-- what holds at the law's entry: the machine, the code, the tables' words (any of lw_tbl by 'hts w (by decide +kernel)'), the script of L ints xs at the cell b, what the Statement gives of the start (any of its parts by flat_of_before) -/
def lw_At (p : Program) (s : State) (m : MethodId) (meth : Method) (c : Code) (b L : Nat) (xs : Nat → Int32) : Prop :=
  p.tables.exec = Jvm.exec ∧ c.code = code ∧ meth.sig.returnType = ret ∧ c.maxLocals = 4 ∧ s.vm.findClass R_law = some m.cls ∧ (∀ w ∈ lw_tbl, w.before #[Value.ref b] s = true) ∧ va_X b L xs s s.heap ∧ b < s.heap.size ∧ meth.locks = false ∧ (Jvm.Cond.and given_1 narrow_1).before #[Value.ref b] s = true

theorem law_K (tm : Term) (htm : tm = .static "PartsAccumulator$SerialPrimes" "K" "[I") : ∀ j : Nat, j < 64 → Cond.eq (.elem (.static "PartsAccumulator$SerialPrimes" "K" "[I") (.int (Int32.ofNat j))) (.int (kt_ j)) ∈ flatC (Jvm.Cond.and given_1 narrow_1) := by
  decide +kernel
set_option maxRecDepth 100000 in
theorem law_G {p : Program} {s : State} {m : MethodId} {meth : Method} {c : Code} {b L : Nat} {xs : Nat → Int32} (C0 : lw_At p s m meth c b L xs) : ∃ G : mg_, gz G = s.heap.size ∧ ks_ G s ∧ kz_ G s s.heap := by
  obtain ⟨-, -, -, -, -, hts, -, -, -, hgv⟩ := C0
  have hs := flat_of_before _ hgv
  have hm : ∀ {w : Cond} (i : Nat), tables_1[i]? = some w → w.before #[Value.ref b] s = true := fun i h => hts _ (List.mem_append_right _ (List.mem_of_getElem? h))
  obtain ⟨cE, iE, kE⟩ := u_known (C := rn_E) (T := ft_E) (N := 3) hts (fun w hw => (List.mem_filter.mp (ly_E w hw)).1) (hts _ (List.mem_filter.mp (tw_92)).1)
  obtain ⟨cN, iN, kN⟩ := u_known (C := rn_N) (T := ft_N) (N := 1) hts (fun w hw => (List.mem_filter.mp (ly_N w hw)).1) (hts _ (List.mem_filter.mp (tw_113)).1)
  obtain ⟨cR, iR, kR⟩ := u_known (C := rn_R) (T := ft_R) (N := 11) hts (fun w hw => (List.mem_filter.mp (ly_R w hw)).1) (hts _ (List.mem_filter.mp (tw_30)).1)
  obtain ⟨cT, iT, kT⟩ := u_known (C := rn_T) (T := ft_T) (N := 3) hts (fun w hw => (List.mem_filter.mp (ly_T w hw)).1) (hts _ (List.mem_filter.mp (tw_74)).1)
  obtain ⟨cS, iS, kS⟩ := u_known (C := rn_S) (T := ft_S) (N := 1) hts (fun w hw => (List.mem_filter.mp (ly_S w hw)).1) (hts _ (List.mem_filter.mp (tw_19)).1)
  obtain ⟨cP, iP, kP⟩ := u_known (C := rn_P) (T := ft_P) (N := 11) hts (fun w hw => (List.mem_filter.mp (ly_P w hw)).1) (hts _ (List.mem_filter.mp (tw_11)).1)
  obtain ⟨cM, iM, kM⟩ := u_known (C := rn_M) (T := ft_M) (N := 22) hts (fun w hw => (List.mem_filter.mp (ly_M w hw)).1) (hts _ (List.mem_filter.mp (tw_458)).1)
  obtain ⟨cI, kI, compI, fI, gI1, hI⟩ := Cond.arrayClass_spec (type := .int) (hm 28 (by decide +kernel))
  obtain ⟨cL, kL, compL, fL, gL1, hL⟩ := Cond.arrayClass_spec (type := .long) (hm 72 (by decide +kernel))
  have hover := hm (w := .arrayOver (.object "PartsAccumulator$Epoch")) 91 (by decide +kernel)
  obtain ⟨comp, cE2, kE2, f1, f2, f3, f4, f5⟩ := Cond.arrayOver_spec hover
  have hA : ∀ a : Nat, a < s.heap.size → ¬ s.heap.size ≤ a := fun a h => by omega
  obtain ⟨t, ht, hT⟩ := va_Tof (tm := .static "PartsAccumulator$SerialPrimes" "K" "[I") (ty := .int) (N := 64) (f := fun j => .int (kt_ j)) (A := fun q => s.heap.size ≤ q) (by decide) (hs _ (by decide +kernel)) (va_eqt (hs (Cond.eq (.length (.static "PartsAccumulator$SerialPrimes" "K" "[I")) (.int (Int32.ofNat 64))) (by decide +kernel))) (fun j hj => va_eqt (hs _ (law_K _ rfl j hj))) hA
  have hZ := va_Zof (A := fun q => s.heap.size ≤ q) (hm (w := .laysStatic "PartsAccumulator$SerialPrimes" "K" "[I") 270 (by decide +kernel)) (hts _ (List.mem_filter.mp (tw_2)).1) ht hA
  refine ⟨((fun c => match c with | 0 => cE | 1 => cN | 2 => cR | 3 => cT | 4 => cS | 5 => cP | _ => cM, fun c => match c with | 0 => iE | 1 => iN | 2 => iR | 3 => iT | 4 => iS | 5 => iP | _ => iM), cI, cL, cE2, s.heap.size, t), rfl, ⟨⟨fun c q hq => ?_, fun k q hk => ?_⟩, va_Nw.of rfl (hm 20 (by decide +kernel)), va_Nw.of rfl (hm 31 (by decide +kernel)), va_Nw.of rfl (hm 75 (by decide +kernel)), va_Nw.of rfl (hm 93 (by decide +kernel)), va_Nw.of rfl (hm 114 (by decide +kernel)), va_Nw.of rfl (hm 98 (by decide +kernel)), va_AO.of hover⟩, hZ, hT⟩
  · match c, hq with
    | 0, hq => cases hq; exact kE
    | 1, hq => cases hq; exact kN
    | 2, hq => cases hq; exact kR
    | 3, hq => cases hq; exact kT
    | 4, hq => cases hq; exact kS
    | 5, hq => cases hq; exact kP
    | 6, hq => cases hq; exact kM
    | c + 7, hq => simp at hq
  · match k, hk with
    | 0, hk => cases hk; exact ⟨fun n z => ⟨fun k h => (by cases h), kI, gI1, compI, hI⟩, fI⟩
    | 1, hk => cases hk; exact ⟨fun n z => ⟨fun k h => (by cases h), kL, gL1, compL, hL⟩, fL⟩
    | 2, hk => cases hk; exact ⟨fun n z => ⟨fun k h => (by cases h), kE2, f3, comp, f4⟩, kE2, comp, f3, f4, f1, f5⟩
    | k + 3, hk => simp at hk
theorem mr_callJ {p : Program} {l : Launch} {e : Env} {R : Room} {s : State} {m : MethodId} {args : Array Value} {below : List Frame} {meth : Method} {c : Code} {H : Heap} {locs : List Loc} {cells slots : Nat} {Q : State → Prop} {cc : ByteArray} {pc : Nat} {ls : Array Slot} {rest : List Value} {G : mg_} {M : mw_} {a nL : Nat} {ret : Option FieldType} {y : MethodName} {y' : MethodName} {cd : ByteArray} {nL' idx n mc ms : Nat} {rm : Room} {As : List Value} {post : Option Value → mw_ → Prop} (C0 : cx_ G p s m args meth c cc nL ret y) (hM : mm_ G M H) (hS : va_S (fz_ G) s.heap H locs) (hcode : Cond.code y' cd nL' none ∈ tb_) (hlk : Cond.methodLink y.cls idx y' ∈ tb_) (hini : Cond.initialized y'.cls ∈ tb_) (hin : Cond.instanceMethod y' ∈ tb_) (hd : y'.cls ≠ "java/lang/invoke/MethodHandle" ∧ y'.cls ≠ "java/lang/invoke/VarHandle" ∧ (parseMethodDescriptor y'.desc).map (fun d => d.parameters.length) = some n) (hyn : y'.name = "<init>") (hMet : ct_ l y' cd nL' none rm G (.ref a :: As) M post mc ms) (hn : As.length = n) {st0 : List Value} (hst : st0 = As.reverse ++ .ref a :: rest) (hls : ls.size = nL) (hW : (rest.map fun v => v.category).sum ≤ 8) (hrc : rm.cells = mc) (hrs : rm.slots = ms) (hR : rm.frames + 1 ≤ R.frames ∧ 8 + (nL' + 11) + rm.locals ≤ R.locals) (hf : cells + mc ≤ R.cells ∧ slots + ms ≤ R.slots) (hdg : decode cc pc = .ok (.invokespecial idx, 3))
    (kk : ∀ (v : Option Value) (M1 : mw_) (H1 : Heap) (locs1 : List Loc), post v M1 → mm_ G M1 H1 → va_S (fz_ G) s.heap H1 locs1 → W p l e R s m args below meth c H1 locs1 (cells + mc) (slots + ms) Q (F0 m (pc + 3) ls (v.toList ++ rest))) : W p l e R s m args below meth c H locs cells slots Q (F0 m pc ls st0) := by
  have hts := C0.2.2.2.2.2.2.1
  exact mr_run (g := F0 m pc ls st0) (va_runI (cc := cc) (nL := nL) (own := y.cls) (index := idx) (bytes := cd) (maxL := nL') (n := n) ⟨C0.1, C0.2.1, C0.2.2.2.2.1, C0.2.2.2.2.2.1, hts⟩ hMet (cwI n hts (tb_good hcode (fun _ h => h)) rfl hrc hrs (hts _ hini) (hts _ hlk) (hts _ hin) hyn hd hR) (mr_pre C0 hM hS (.ref a :: As)) rfl hn hls hst (by show 2 * 0 + _ ≤ 8; omega) hdg hf) hS kk
