/-! what a run keeps: the state, the memory and the model's -/
def MS_ (G : mg_) (am : Nat → Nat) (hs N Vt : Nat) (Pd : rl_) (Ls : Nat → rl_) (nw Hd fc : Nat) (M : mw_) : Prop := ∃ (w g0 cf qf xw : Nat → Int32) (f sf uf lf : Nat → Int64) (r1 r0 : Int64), mrl_ hs N Pd Ls nw f g0 cf sf qf uf lf ∧ M (am 1) = some (la_ G 32 mk_) ∧ M (am 2) = some (ia_ G 64 w) ∧ M (am 3) = some (la_ G 10 f) ∧ M (am 4) = some (ia_ G 10 g0) ∧ M (am 5) = some (ia_ G 17 cf) ∧ M (am 6) = some (la_ G 170 sf) ∧ M (am 7) = some (ia_ G 170 qf) ∧ M (am 8) = some (la_ G 17 uf) ∧ M (am 9) = some (la_ G 17 lf) ∧ M (am 10) = some (ia_ G 32 xw) ∧ M (am 0) = some (ob_ 6 [.ref (am 1), .ref (am 2), .int (nI hs), .long (hi_ N), .long (lo_ N), .long (hi_ Vt), .long (lo_ Vt), .int (nI Pd.length), .ref (am 3), .ref (am 4), .int (nI nw), .ref (am 5), .ref (am 6), .ref (am 7), .ref (am 8), .ref (am 9), .long (hi_ Hd), .long (lo_ Hd), .int (nI fc), .long r1, .long r0, .ref (am 10)])
theorem MS_fr {G : mg_} {ap am : Nat → Nat} {hs N Vt nw Hd fc : Nat} {Pd : rl_} {Ls : Nat → rl_} {M M1 : mw_} (hc : ∀ i j, ap i ≠ am j) (hf : fr_ ap M M1) (h : MS_ G am hs N Vt Pd Ls nw Hd fc M) : MS_ G am hs N Vt Pd Ls nw Hd fc M1 := by
  have k : ∀ j, M1 (am j) = M (am j) := fun j => hf _ (fun i => (hc i j).symm)
  obtain ⟨w, g0, cf, qf, xw, f, sf, uf, lf, r1, r0, hrl, hk, h_2, h_3, h_4, h_5, h_6, h_7, h_8, h_9, h_10, h_0⟩ := h
  exact ⟨w, g0, cf, qf, xw, f, sf, uf, lf, r1, r0, hrl, (k _).trans hk, (k _).trans h_2, (k _).trans h_3, (k _).trans h_4, (k _).trans h_5, (k _).trans h_6, (k _).trans h_7, (k _).trans h_8, (k _).trans h_9, (k _).trans h_10, (k _).trans h_0⟩
theorem MS_new {G : mg_} {am : Nat → Nat} {hs N Vt nw Hd fc : Nat} {Pd : rl_} {Ls : Nat → rl_} {M M1 : mw_} (hne : ∀ {i j : Nat}, i ≠ j → am i ≠ am j) (hk : M (am 1) = some (la_ G 32 mk_)) (h : MWx_ M am G hs N Vt Pd Ls nw Hd fc M1) : MS_ G am hs N Vt Pd Ls nw Hd fc M1 ∧ fr_ am M M1 := by
  obtain ⟨w, g0, cf, qf, xw, f, sf, uf, lf, r1, r0, hrl, eM⟩ := h
  subst eM
  exact ⟨⟨w, g0, cf, qf, xw, f, sf, uf, lf, r1, r0, hrl, (mu_n' (hne (by decide)) (mu_n' (hne (by decide)) (mu_n' (hne (by decide)) (mu_n' (hne (by decide)) (mu_n' (hne (by decide)) (mu_n' (hne (by decide)) (mu_n' (hne (by decide)) (mu_n' (hne (by decide)) (mu_n' (hne (by decide)) (mu_n' (hne (by decide)) hk)))))))))), (mu_n' (hne (by decide)) (mu_n' (hne (by decide)) (mu_n' (hne (by decide)) (mu_n' (hne (by decide)) (mu_n' (hne (by decide)) (mu_n' (hne (by decide)) (mu_n' (hne (by decide)) (mu_n' (hne (by decide)) (mu_n' (hne (by decide)) mu_s))))))))), (mu_n' (hne (by decide)) (mu_n' (hne (by decide)) (mu_n' (hne (by decide)) (mu_n' (hne (by decide)) (mu_n' (hne (by decide)) (mu_n' (hne (by decide)) (mu_n' (hne (by decide)) (mu_n' (hne (by decide)) mu_s)))))))), (mu_n' (hne (by decide)) (mu_n' (hne (by decide)) (mu_n' (hne (by decide)) (mu_n' (hne (by decide)) (mu_n' (hne (by decide)) (mu_n' (hne (by decide)) (mu_n' (hne (by decide)) mu_s))))))), (mu_n' (hne (by decide)) (mu_n' (hne (by decide)) (mu_n' (hne (by decide)) (mu_n' (hne (by decide)) (mu_n' (hne (by decide)) (mu_n' (hne (by decide)) mu_s)))))), (mu_n' (hne (by decide)) (mu_n' (hne (by decide)) (mu_n' (hne (by decide)) (mu_n' (hne (by decide)) (mu_n' (hne (by decide)) mu_s))))), (mu_n' (hne (by decide)) (mu_n' (hne (by decide)) (mu_n' (hne (by decide)) (mu_n' (hne (by decide)) mu_s)))), (mu_n' (hne (by decide)) (mu_n' (hne (by decide)) (mu_n' (hne (by decide)) mu_s))), (mu_n' (hne (by decide)) (mu_n' (hne (by decide)) mu_s)), (mu_n' (hne (by decide)) mu_s), mu_s⟩, fun a ha => (mu_n' (ha _) (mu_n' (ha _) (mu_n' (ha _) (mu_n' (ha _) (mu_n' (ha _) (mu_n' (ha _) (mu_n' (ha _) (mu_n' (ha _) (mu_n' (ha _) (mu_n' (ha _) rfl))))))))))⟩
theorem PX_fr {G : mg_} {ap : Nat → Nat} {hs N Vt nw Hd fc : Nat} {Pd : rl_} {Ls : Nat → rl_} {n1 Ex : Nat} {w g0 : Nat → Int32} {f t0 d0 b0 q0 s0 o0 td mn mo mq : Nat → Int64} {ef eu ei : Nat → Nat → Int64} {eg : Nat → Nat → Int32} {M M1 : mw_} (k : ∀ i, M1 (ap i) = M (ap i)) (h : PX_ G ap hs N Vt Pd Ls nw Hd fc n1 Ex w g0 f t0 d0 b0 q0 s0 o0 td mn mo mq ef eu ei eg M) : PX_ G ap hs N Vt Pd Ls nw Hd fc n1 Ex w g0 f t0 d0 b0 q0 s0 o0 td mn mo mq ef eu ei eg M1 := by
  obtain ⟨h_po, h_so, h_wA, h_r, h_th, h_td, h_un, h_mn, h_mo, h_mq, h_tt, h_dd, h_bb, h_rr, h_to, h_tS, h_tP, h_ep, h_hd, h_sc, h_os, h_no, h_nA, hE0, hE1, hE2, hE3, hE4, hE5, hrest⟩ := h
  exact ⟨(k _).trans h_po, (k _).trans h_so, (k _).trans h_wA, (k _).trans h_r, (k _).trans h_th, (k _).trans h_td, (k _).trans h_un, (k _).trans h_mn, (k _).trans h_mo, (k _).trans h_mq, (k _).trans h_tt, (k _).trans h_dd, (k _).trans h_bb, (k _).trans h_rr, (k _).trans h_to, (k _).trans h_tS, (k _).trans h_tP, (k _).trans h_ep, (k _).trans h_hd, (k _).trans h_sc, (k _).trans h_os, (k _).trans h_no, (k _).trans h_nA, (fun e he => (k _).trans (hE0 e he)), (fun e he => (k _).trans (hE1 e he)), (fun e he => (k _).trans (hE2 e he)), (fun e he => (k _).trans (hE3 e he)), (fun e he => (k _).trans (hE4 e he)), (fun e he => (k _).trans (hE5 e he)), hrest⟩
theorem PW_fr {G : mg_} {ap am : Nat → Nat} {hs N Vt nw Hd fc : Nat} {Pd : rl_} {Ls : Nat → rl_} {M M1 : mw_} (hc : ∀ i j, ap i ≠ am j) (hf : fr_ am M M1) (h : PW_ G ap hs N Vt Pd Ls nw Hd fc M) : PW_ G ap hs N Vt Pd Ls nw Hd fc M1 := by
  obtain ⟨n1, Ex, w, g0, f, t0, d0, b0, q0, s0, o0, td, mn, mo, mq, ef, eu, ei, eg, hP⟩ := h
  exact ⟨n1, Ex, w, g0, f, t0, d0, b0, q0, s0, o0, td, mn, mo, mq, ef, eu, ei, eg, PX_fr (fun i => hf _ (fun j => hc i j)) hP⟩
/-- the loop's invariant -/
def LI_ (G : mg_) (ap am : Nat → Nat) (hs N Vt : Nat) (Pd : rl_) (Ls : Nat → rl_) (nw Hd fc : Nat) (M : mw_) : Prop := SI_ hs N Vt Pd Ls nw Hd fc ∧ PW_ G ap hs N Vt Pd Ls nw Hd fc M ∧ MS_ G am hs N Vt Pd Ls nw Hd fc M
theorem LI_mk {G : mg_} {ap am : Nat → Nat} {hs N Vt nw Hd fc : Nat} {Pd : rl_} {Ls : Nat → rl_} {M1 M2 : mw_} (hneM : ∀ {i j : Nat}, i ≠ j → am i ≠ am j) (hc : ∀ i j, ap i ≠ am j) (hk : M1 (am 1) = some (la_ G 32 mk_)) (hsi : SI_ hs N Vt Pd Ls nw Hd fc) (hP : PW_ G ap hs N Vt Pd Ls nw Hd fc M1) (hW : MWx_ M1 am G hs N Vt Pd Ls nw Hd fc M2) : LI_ G ap am hs N Vt Pd Ls nw Hd fc M2 := by
  obtain ⟨h1, h2⟩ := MS_new hneM hk hW
  exact ⟨hsi, PW_fr hc h2 hP, h1⟩
theorem ins_perm (L : rl_) (s : Int64) (p : Nat) : (ins_ L s p).Perm ((s, p) :: L) := by
  unfold ins_
  refine List.perm_middle.trans ?_
  rw [List.take_append_drop]
theorem ins_ok {L : rl_} {s : Int64} {p : Nat} (h : hs_ L s = false) (hd : (L.map (·.1)).Nodup) : ((ins_ L s p).map (·.1)).Nodup := by
  rw [((ins_perm L s p).map (·.1)).nodup_iff]
  refine List.nodup_cons.mpr ⟨fun q => ?_, hd⟩
  obtain ⟨x, hx, hxs⟩ := List.mem_map.mp q
  have : hs_ L s = true := List.any_eq_true.mpr ⟨x, hx, by simpa using hxs⟩
  rw [h] at this; cases this
theorem SI_md {hs N Vt nw Hd fc : Nat} {Pd : rl_} {Ls : Nat → rl_} (h : SI_ hs N Vt Pd Ls nw Hd fc) {V : Nat} (hV : V < 340282366920938463463374607431768211456) : SI_ (mdS_ hs V) (mdN_ hs V N) (mdT_ hs V Vt) Pd Ls nw Hd fc := by
  by_cases hc : mdC_ hs V
  · obtain ⟨-, e2, e3, e4⟩ := md_y (N := N) (Vt := Vt) hc
    rw [e2, e3, e4]
    obtain ⟨ok, hh, h1, h2, h3, h4, h5⟩ := h
    have hl := hc.2.2.1
    refine ⟨ok, by decide, fun _ => ⟨hV, hl⟩, fun _ => ⟨rfl, th_lt (by omega) hc.2.2.2⟩, fun _ => ?_, h4, fun q => absurd q (by decide)⟩
    rw [(h5 hc.1).2.2]; omega
  · obtain ⟨-, e2, e3, e4⟩ := md_n (N := N) (Vt := Vt) hc
    rw [e2, e3, e4]
    exact h
theorem pn_lt {p : Int32} (h : ¬ p < 0) : pn_ p < 2147483648 := by
  have h1 : 0 ≤ p.toInt := by
    have := Int32.not_lt.mp h
    exact Int32.le_iff_toInt_le.mp this
  have h2 : p.toInt = p.toBitVec.toInt := rfl
  rw [h2, BitVec.toInt_eq_toNat_cond] at h1
  have h3 := p.toBitVec.isLt
  unfold pn_
  split at h1 <;> omega
theorem SI_ad {hs N Vt nw Hd fc : Nat} {Pd : rl_} {Ls : Nat → rl_} (h : SI_ hs N Vt Pd Ls nw Hd fc) {p : Int32} {s : Int64} (hp : p = (-2) ∨ pn_ p < 2147483648) : SI_ hs N Vt (adL_ hs p Pd s) Ls nw Hd fc := by
  have key : adL_ hs p Pd s = Pd ∨ (adL_ hs p Pd s = ins_ Pd s (pn_ p) ∧ hs_ Pd s = false ∧ Pd.length ≠ 10 ∧ p ≠ (-2)) := by
    unfold adL_
    split
    · exact Or.inl rfl
    · split
      · exact Or.inl rfl
      · split
        · exact Or.inl rfl
        · split
          · exact Or.inl rfl
          · split
            · exact Or.inl rfl
            · rename_i a1 a2 a3 a4 a5
              refine Or.inr ⟨rfl, ?_, a5, a2⟩
              cases hq : hs_ Pd s with
              | false => rfl
              | true => exact absurd hq a3
  rcases key with e | ⟨e, k1, k2, k3⟩
  · rw [e]; exact h
  · rw [e]
    obtain ⟨⟨o1, o2, o3, o4, o5, o6, o7⟩, hr⟩ := h
    have hpl := hp.resolve_left k3
    refine ⟨⟨by rw [ins_len]; omega, o2, o3, fun x hx => ?_, o5, ins_ok k1 o6, o7⟩, hr⟩
    rcases List.mem_cons.mp ((ins_perm Pd s (pn_ p)).mem_iff.mp hx) with q | q
    · rw [q]; exact hpl
    · exact o4 x q
theorem SI_rm {hs N Vt nw Hd fc : Nat} {Pd : rl_} {Ls : Nat → rl_} (h : SI_ hs N Vt Pd Ls nw Hd fc) {p : Int32} {s : Int64} : SI_ hs N Vt (rmL_ hs p Pd s) Ls nw Hd fc := by
  have key : rmL_ hs p Pd s = Pd ∨ ∃ i, rmL_ hs p Pd s = Pd.eraseIdx i := by
    unfold rmL_
    split
    · exact Or.inl rfl
    · split
      · exact Or.inl rfl
      · split
        · exact Or.inr ⟨_, rfl⟩
        · exact Or.inl rfl
  rcases key with e | ⟨i, e⟩
  · rw [e]; exact h
  · rw [e]
    obtain ⟨⟨o1, o2, o3, o4, o5, o6, o7⟩, hr⟩ := h
    refine ⟨⟨Nat.le_trans (List.length_eraseIdx_le _ _) o1, o2, o3, fun x hx => o4 x (List.mem_of_mem_eraseIdx hx), o5, ?_, o7⟩, hr⟩
    exact ((List.eraseIdx_sublist Pd i).map (·.1)).nodup o6
theorem SI_cl {hs N Vt nw Hd fc : Nat} {Pd : rl_} {Ls : Nat → rl_} (h : SI_ hs N Vt Pd Ls nw Hd fc) : SI_ hs N Vt Pd (clL_ hs nw Pd Ls) (clW_ hs nw) Hd fc := by
  unfold clL_ clW_
  by_cases h0 : hs = 0
  · rw [if_pos h0, if_pos h0]; exact h
  · rw [if_neg h0, if_neg h0]
    by_cases h1 : nw = 16
    · rw [if_pos h1, if_pos h1]; exact h
    · rw [if_neg h1, if_neg h1]
      obtain ⟨⟨o1, o2, o3, o4, o5, o6, o7⟩, hh, r1, r2, r3, r4, r5⟩ := h
      refine ⟨⟨o1, fun e => ?_, by omega, o4, fun e => ?_, o6, fun e => ?_⟩, hh, r1, r2, r3, r4, fun q => absurd q h0⟩
      · show (if e = nw + 1 then Pd else Ls e).length ≤ 10
        split
        · exact o1
        · exact o2 e
      · show ∀ x ∈ (if e = nw + 1 then Pd else Ls e), x.2 < 2147483648
        split
        · exact o4
        · exact o5 e
      · show ((if e = nw + 1 then Pd else Ls e).map (·.1)).Nodup
        split
        · exact o6
        · exact o7 e
theorem SI_hf {hs N Vt nw Hd fc : Nat} {Pd : rl_} {Ls : Nat → rl_} {Hd' fc' : Nat} (h : SI_ hs N Vt Pd Ls nw Hd fc) (hH : hs = 1 → Hd' < N) (hF : fc' < 2147483648) (h0 : hs = 0 → Hd' = Hd) : SI_ hs N Vt Pd Ls nw Hd' fc' := by
  obtain ⟨ok, hh, r1, r2, r3, r4, r5⟩ := h
  exact ⟨ok, hh, r1, r2, hH, hF, fun q => ⟨(r5 q).1, (r5 q).2.1, (h0 q).trans (r5 q).2.2⟩⟩
theorem SI_Np {hs N Vt nw Hd fc : Nat} {Pd : rl_} {Ls : Nat → rl_} (h : SI_ hs N Vt Pd Ls nw Hd fc) (h1 : hs = 1) : 0 < N := by
  have := (h.2.2.1 h1).2; omega
theorem SI_is {hs N Vt nw Hd fc : Nat} {Pd : rl_} {Ls : Nat → rl_} (h : SI_ hs N Vt Pd Ls nw Hd fc) {p : Int32} {s : Int64} : SI_ hs N Vt Pd Ls nw (isH_ hs N p Ls nw s Hd) (isF_ hs p Ls nw s fc) := by
  refine SI_hf h (fun h1 => ?_) ?_ (fun h0 => ?_)
  · have hp := SI_Np h h1
    have hH := h.2.2.2.2.1 h1
    unfold isH_ wt_
    split
    · exact hH
    · split
      · exact hH
      · split
        · exact Nat.mod_lt _ hp
        · exact hH
  · have := h.2.2.2.2.2.1
    unfold isF_
    split
    · exact this
    · split
      · exact this
      · split
        · decide
        · exact this
  · unfold isH_; rw [if_pos h0]
theorem SI_ho {hs N Vt nw Hd fc : Nat} {Pd : rl_} {Ls : Nat → rl_} (h : SI_ hs N Vt Pd Ls nw Hd fc) {V : Nat} {c : Int32} : SI_ hs N Vt Pd Ls nw (hoH_ hs N V c Hd) (hoF_ hs N V c fc) := by
  by_cases hc : hoR_ hs N V c
  · rw [hoH_y hc, hoF_y hc]
    exact SI_hf h (fun _ => hc.2.1) (pn_lt hc.2.2) (fun h0 => by have := hc.1; omega)
  · rw [hoH_n hc, hoF_n hc]; exact h
theorem SI_ex {hs N Vt nw Hd fc : Nat} {Pd : rl_} {Ls : Nat → rl_} (h : SI_ hs N Vt Pd Ls nw Hd fc) {p : Int32} {s : Int64} (hp : p = (-2) ∨ (2 ≤ pn_ p ∧ pn_ p < 2147483648)) : SI_ hs N Vt Pd Ls nw (exH_ hs N p Ls nw s Hd) (exF_ hs p Ls nw s fc) := by
  refine SI_hf h (fun h1 => ?_) ?_ (fun h0 => ?_)
  · have hpN := SI_Np h h1
    have hH := h.2.2.2.2.1 h1
    unfold exH_
    split
    · exact hH
    · split
      · exact hH
      · split
        · exact hH
        · split
          · exact hH
          · exact Nat.mod_lt _ hpN
  · have hF := h.2.2.2.2.2.1
    unfold exF_
    split
    · exact hF
    · split
      · exact hF
      · rename_i a1 a2
        have hq := hp.resolve_left a2
        split
        · exact hF
        · split
          · exact hF
          · exact Nat.lt_trans (Nat.mod_lt _ (by omega)) hq.2
  · unfold exH_; rw [if_pos h0]
theorem SI_av {hs N Vt nw Hd fc : Nat} {Pd : rl_} {Ls : Nat → rl_} (h : SI_ hs N Vt Pd Ls nw Hd fc) {p : Int32} {s : Int64} {e : Int32} : SI_ hs N Vt Pd Ls nw (avH_ hs N p Ls nw Hd s e) fc := by
  refine SI_hf h (fun h1 => ?_) h.2.2.2.2.2.1 (fun h0 => ?_)
  · have hpN := SI_Np h h1
    have hH := h.2.2.2.2.1 h1
    unfold avH_
    split
    · exact hH
    · split
      · exact hH
      · split
        · split
          · exact mvs_lt hpN hH _
          · exact hH
        · exact hH
  · unfold avH_; rw [if_pos h0]
theorem SI_0 : SI_ 0 0 0 [] (fun _ => []) 0 0 0 := ⟨⟨by decide, fun _ => Nat.zero_le 10, by decide, fun _ h => absurd h List.not_mem_nil, fun _ _ h => absurd h List.not_mem_nil, List.nodup_nil, fun _ => List.nodup_nil⟩, by decide, fun q => absurd q (by decide), fun q => absurd q (by decide), fun q => absurd q (by decide), by decide, fun _ => ⟨rfl, rfl, rfl⟩⟩
