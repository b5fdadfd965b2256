/-! THE RUN: by the steps that it may take -/
theorem zcall_facts {z : Nat} {st : List Value} {hp : zHp} {As rest : List Value} (h : zcall z st hp = some (true, .inr (.inr (z, As, rest)))) :
    (zkd z = 0 ∧ st = As.reverse ++ rest ∧ As.length = znp z ∧ zcats rest ≤ 8 ∧ (zspr As).length ≤ zmL z) ∨ (¬ zkd z = 0 ∧ ∃ (o : Nat) (As' : List Value), As = .ref o :: As' ∧ st = As'.reverse ++ .ref o :: rest ∧ As'.length = znp z ∧ zcats rest ≤ 8 ∧ (zspr As).length ≤ zmL z ∧ zisO hp.1 o (zown z) = true) := by
  unfold zcall at h
  dsimp only at h
  cases hc : ((zM z).2.2.2.2.2.1 == 0) with
  | true =>
    rw [hc] at h
    simp only [cond_true, Option.some.injEq, Prod.mk.injEq, Sum.inr.injEq, Bool.and_eq_true, decide_eq_true_eq, true_and] at h
    obtain ⟨⟨⟨h1, h2⟩, h3⟩, h4, h5⟩ := h
    left
    refine ⟨by simpa [zkd] using hc, ?_, ?_, ?_, ?_⟩
    · rw [← h4, ← h5, List.reverse_reverse, List.take_append_drop]
    · rw [← h4, List.length_reverse, List.length_take]
      show min (znp z) st.length = znp z
      exact Nat.min_eq_left h2
    · rw [← h5]; exact h1
    · rw [← h4]; exact h3
  | false =>
    rw [hc] at h
    simp only [cond_false] at h
    split at h
    · rename_i o rest' hd
      simp only [Option.some.injEq, Prod.mk.injEq, Sum.inr.injEq, Bool.and_eq_true, decide_eq_true_eq, true_and] at h
      obtain ⟨⟨⟨h1, h2⟩, h3⟩, h4, h5⟩ := h
      subst h5
      right
      refine ⟨by simpa [zkd] using hc, o, (st.take (zM z).2.2.2.2.2.2).reverse, h4.symm, ?_, ?_, h1, ?_, h3⟩
      · rw [List.reverse_reverse, ← hd, List.take_append_drop]
      · rw [List.length_reverse, List.length_take]
        have : (zM z).2.2.2.2.2.2 < st.length := by
          apply Nat.lt_of_not_le
          intro q
          rw [List.drop_eq_nil_of_le q] at hd
          cases hd
        show min (znp z) st.length = znp z
        exact Nat.min_eq_left (Nat.le_of_lt this)
      · rw [← h4]; exact h2
    · cases h
set_option maxRecDepth 100000 in
theorem zinit_ret : ∀ z, z < 255 → zkd z = 2 → (zM z).2.2.2.1 = none := by decide +kernel
def zRunOk (G : zG) (n : Nat) : Prop := ∀ (d y pc : Nat) (lv st : List Value) (hp : zHp) (v : Option Value) (hp' : zHp), y < 256 → zrun n d y pc lv st hp = some (v, hp') →
  ∀ (p : Program) (l : Launch) (e : Env) (R : Room) (s : State) (m : MethodId) (args : Array Value) (below : List Frame) (meth : Method) (c : Code) (H : Heap) (locs : List Loc) (ls : Array Slot) (cells slots : Nat) (Q : State → Prop),
    zC G y p s m args meth c → lv.length = zmL y → (d + 8 ≤ R.frames ∧ 64 * (d + 8) ≤ R.locals) → zRel G hp H → zLV (zro G) ls lv → (∀ q ∈ locs, zgA G q.base) → cells + (hp'.1.length - hp.1.length) ≤ R.cells → slots + (zns hp'.1 - zns hp.1) ≤ R.slots →
    (∀ (H' : Heap) (locs' : List Loc) (ls' : Array Slot) (r : zRow) (lv'' st'' : List Value), r ∈ zK y → zstp y r lv'' st'' hp' = some (true, .inr (.inl v)) → zRel G hp' H' → (∀ q ∈ locs', zgA G q.base) → W p l e R s m args below meth c H' locs' (cells + (hp'.1.length - hp.1.length)) (slots + (zns hp'.1 - zns hp.1)) Q (F0 m r.1 ls' (st''.map (zvr (zro G))))) →
    W p l e R s m args below meth c H locs cells slots Q (F0 m pc ls (st.map (zvr (zro G))))
theorem zini_len {z : Nat} {As : List Value} (h : (zspr As).length ≤ zmL z) : (zini z As).length = zmL z := by
  simp [zini]; omega
theorem zrow_ok (hcd : zCodes) {y : Nat} (hy : y < 256) {r : zRow} (hr : r ∈ zK y) : zchk y r = true ∧ zchkF y r = true := by
  have := List.all_eq_true.mp (hcd y hy) r hr
  rw [Bool.and_eq_true] at this
  exact this
/-- a method's contract out of the runs of its body -/
theorem zMet {G : zG} (hcd : zCodes) {n : Nat} (ih : zRunOk G n) (l : Launch) {d z : Nat} {As : List Value} {hp hp2 : zHp} {v1 : Option Value} (hz : z < 255) (hspr : (zspr As).length ≤ zmL z) (h1 : zrun n d z 0 (zini z As) [] hp = some (v1, hp2)) :
    Met l (zM z).1 (zWS z) (zrm d (hp2.1.length - hp.1.length) (zns hp2.1 - zns hp.1)) (zPc G As hp) (zQc G v1 hp2) (hp2.1.length - hp.1.length) (zns hp2.1 - zns hp.1) (zgA G) := by
  obtain ⟨k1, k2, k3, k4, k5, k6, k7, k8⟩ := zOkM_all z hz
  refine Met.ofW (cc := (zM z).2.1) (maxL := zmL z) (ret := (zM z).2.2.2.1) k3 rfl ?_
  intro p e s m args below meth c s₁ B hml hv
  obtain ⟨rfl, hKS, hrel⟩ := hv
  rw [lg_entry_eq]
  refine ih d z 0 (zini z As) [] hp v1 hp2 (by omega) h1 p l e _ s m _ below meth c s.heap [] _ 0 0 _ ⟨B.exec, B.bytes, hml, ?_, ?_, hKS, ?_⟩ (zini_len hspr) ⟨Nat.le_refl _, Nat.le_refl _⟩ hrel (zLV.entry hspr) (fun q h => by cases h) (by rw [Nat.zero_add]; exact Nat.le_refl _) (by rw [Nat.zero_add]; exact Nat.le_refl _) ?_
  · rw [← k7]; exact findClass_of_methodNamed B.named
  · exact fun w hw => atoms_spec (ws := zWS z) B.pre w (List.mem_cons_of_mem _ hw)
  · intro q
    rcases k8 with r | r | r
    · rw [r.1] at q; cases q
    · rw [r.1] at q; cases q
    · rw [(name_of_methodNamed B.named B.method).1]; exact r.2.2.2
  · intro H' locs' ls' r lv'' st'' hr hzr hrel' hlo'
    rw [Nat.zero_add, Nat.zero_add]
    exact zret_sound (zrow_ok hcd (by omega) hr).1 hzr B.exec B.bytes B.returns B.notSynchronized hrel' hlo'
theorem zrun_sound {G : zG} (hcd : zCodes) : ∀ n, zRunOk G n := by
  intro n
  induction n with
  | zero => intro d y pc lv st hp v hp' _ h; simp [zrun] at h
  | succ n ih =>
    intro d y pc lv st hp v hp' hy h p l e R s m args below meth c H locs ls cells slots Q C hn hR hrel hlv hlo hcap1 hcap2 K
    rw [zrun] at h
    split at h
    · cases h
    rename_i r hr
    obtain ⟨hrin, rfl⟩ := zfetch_in hr
    obtain ⟨hck, hckF⟩ := zrow_ok hcd hy hrin
    split at h
    · cases h
    · rename_i g pc1 lv1 st1 hp1 hz
      cases g with
      | false => simp at h
      | true =>
        simp only [cond_true] at h
        obtain ⟨hg, hlen⟩ := zstp_grow hz
        have hg2 := zrun_grow _ _ _ _ _ _ _ _ _ h
        dsimp only at hg hlen
        obtain ⟨a1, a2⟩ := hg
        obtain ⟨b1, b2⟩ := hg2
        refine zstp_sound hck hckF hz p l e R s m args below meth c H locs ls cells slots Q C hn ⟨by omega, by omega⟩ hrel hlv hlo (by dsimp only; omega) (by dsimp only; omega) ?_
        intro H' locs' ls' hrel' hlv' hlo'
        dsimp only at hrel' hlv' ⊢
        have e1 : cells + (hp1.1.length - hp.1.length) + (hp'.1.length - hp1.1.length) = cells + (hp'.1.length - hp.1.length) := by omega
        have e2 : slots + (zns hp1.1 - zns hp.1) + (zns hp'.1 - zns hp1.1) = slots + (zns hp'.1 - zns hp.1) := by omega
        refine ih d y pc1 lv1 st1 hp1 v hp' hy h p l e R s m args below meth c H' locs' ls' _ _ Q C (hlen.trans hn) hR hrel' hlv' hlo' (by rw [e1]; exact hcap1) (by rw [e2]; exact hcap2) ?_
        intro H2 locs2 ls2 r2 lv2 st2 q1 q2 q3 q4
        rw [e1, e2]
        exact K H2 locs2 ls2 r2 lv2 st2 q1 q2 q3 q4
    · rename_i g v1 hz
      cases g with
      | false => simp at h
      | true =>
        simp only [cond_true, Option.some.injEq, Prod.mk.injEq] at h
        obtain ⟨rfl, rfl⟩ := h
        have K2 := K H locs ls r lv st hrin hz hrel hlo
        rw [Nat.sub_self, Nat.sub_self, Nat.add_zero, Nat.add_zero] at K2
        exact K2
    · rename_i g z As rest hz
      cases g with
      | false => simp at h
      | true =>
        simp only [cond_true] at h
        cases d with
        | zero => simp at h
        | succ d =>
          dsimp only at h
          split at h
          · cases h
          rename_i v1 hp2 h1
          have hg1 := zrun_grow _ _ _ _ _ _ _ _ _ h1
          have hg2 := zrun_grow _ _ _ _ _ _ _ _ _ h
          obtain ⟨a1, a2⟩ := hg1
          obtain ⟨b1, b2⟩ := hg2
          obtain ⟨s1, s2, s3, s4⟩ := zcall_shape hz
          obtain ⟨hx, hb, hml, hown, hts, hKS, hin⟩ := C
          obtain ⟨hdg, hi⟩ := zchk_dec hck
          obtain ⟨pc, len, ins, v0, b, c0⟩ := r
          dsimp only at s1 s2 s4 hdg hi h ⊢
          subst s1
          subst s2
          have hcap : cells + (hp2.1.length - hp.1.length) ≤ R.cells ∧ slots + (zns hp2.1 - zns hp.1) ≤ R.slots := ⟨by omega, by omega⟩
          have e1 : cells + (hp2.1.length - hp.1.length) + (hp'.1.length - hp2.1.length) = cells + (hp'.1.length - hp.1.length) := by omega
          have e2 : slots + (zns hp2.1 - zns hp.1) + (zns hp'.1 - zns hp2.1) = slots + (zns hp'.1 - zns hp.1) := by omega
          have back : ∀ (st0 : List Value) (a : Array Value), va_Run p l e R s m args below meth c H locs cells slots (hp2.1.length - hp.1.length) (zns hp2.1 - zns hp.1) (F0 m pc ls st0) (rest.map (zvr (zro G))) (zQc G v1 hp2 a) (zgA G) → W p l e R s m args below meth c H locs cells slots Q (F0 m pc ls st0) := by
            intro st0 a hrun
            refine zafter hrun hlo (fun H1 locs1 hrel1 hlo1 => ?_)
            have W1 := ih (d + 1) y (pc + 3) lv (v1.toList ++ rest) hp2 v hp' hy h p l e R s m args below meth c H1 locs1 ls (cells + (hp2.1.length - hp.1.length)) (slots + (zns hp2.1 - zns hp.1)) Q ⟨hx, hb, hml, hown, hts, hKS, hin⟩ hn hR hrel1 hlv hlo1 (by rw [e1]; exact hcap1) (by rw [e2]; exact hcap2) (by
              intro H2 locs2 ls2 r2 lv2 st2 q1 q2 q3 q4
              rw [e1, e2]
              exact K H2 locs2 ls2 r2 lv2 st2 q1 q2 q3 q4)
            rw [List.map_append, show v1.toList.map (zvr (zro G)) = (v1.map (zvr (zro G))).toList by cases v1 <;> rfl] at W1
            exact W1
          have hsz : (F0 m pc ls ([] : List Value)).locals.size = zmL y := by show ls.size = _; rw [hlv.1, hn]
          have rev : ∀ (xs : List Value), (xs.reverse).map (zvr (zro G)) = (xs.map (zvr (zro G))).reverse := fun xs => List.map_reverse
          have main : ∀ (hz255 : c0 < 255), W p l e R s m args below meth c H locs cells slots Q (F0 m pc ls (st.map (zvr (zro G)))) := by
            intro hz255
            obtain ⟨k1, k2, k3, k4, k5, k6, k7, k8⟩ := zOkM_all c0 hz255
            have hspr : (zspr As).length ≤ zmL c0 := by
              rcases zcall_facts s3 with q | ⟨-, o, As', q1, q2, q3, q4, q5, q6⟩
              · exact q.2.2.2.2
              · exact q5
            have hM := zMet hcd ih l hz255 hspr h1
            have hG : GoodIn zTB (zWS c0) := zGI (fun w hw => by
              rcases List.mem_cons.mp hw with q | q
              · rw [q]; exact zgd k1 rfl
              · exact q)
            have hroom : (zrm d (hp2.1.length - hp.1.length) (zns hp2.1 - zns hp.1)).frames + 1 ≤ R.frames ∧ 8 + (zmL c0 + 11) + (zrm d (hp2.1.length - hp.1.length) (zns hp2.1 - zns hp.1)).locals ≤ R.locals := by
              refine ⟨?_, ?_⟩
              · show d + 8 + 1 ≤ R.frames; omega
              · show 8 + (zmL c0 + 11) + 64 * (d + 8) ≤ R.locals; omega
            have preS : ∀ (Bs : List Value), Bs = As → PreS s H (zPc G As hp) (Bs.map (zvr (zro G))) := fun Bs q => ⟨zPc_blind, fun U hU hW => ⟨by rw [q], zKS.warm hW hKS, by rw [hU]; exact hrel⟩⟩
            have hfix : CallFix p m c (zM y).2.1 (zmL y) s args zTB (zRn (zown y)) := ⟨hx, hb, hml, hown, hts⟩
            have hini := hts _ (zgd k2 rfl)
            rcases s4 with ⟨i, rfl⟩ | ⟨i, rfl⟩ | ⟨i, rfl⟩
            · simp only [zchkI, Bool.and_eq_true, Bool.or_eq_true, decide_eq_true_eq] at hi
              obtain ⟨rfl, hi⟩ := hi
              have hi2 : zkd c0 = 0 ∧ ((zown y, i, c0) ∈ zLM ∨ (zown y, i, c0) ∈ zLH) := by
                rcases hi with ((((hi | hi) | hi) | hi) | hi)
                · exact ⟨hi.1.2, hi.2⟩
                all_goals exact absurd hi.1 (by decide)
              rcases zcall_facts s3 with ⟨f1, f2, f3, f4, f5⟩ | ⟨f1, -⟩
              · have hst : (Cond.static (zM c0).1).before args s = true := by
                  rcases k8 with r | r | r
                  · exact hts _ (zgd r.2 rfl)
                  · rw [f1] at r; cases r.1
                  · rw [f1] at r; cases r.1
                rw [f2, List.map_append, rev]
                rcases hi2.2 with hl | hl
                · have hm := zLM_ok _ hl
                  refine back _ _ (va_runS (As := As.map (zvr (zro G))) (n := znp c0) hfix hM ⟨callB_of (znp c0) hts hG rfl rfl rfl hini (hts _ (zgd hm rfl)) ⟨k4.1, k4.2, k5⟩ hroom, hst⟩ (preS As rfl) rfl (by rw [List.length_map]; exact f3) hsz rfl (lv_room (zcats_vr rest f4)) hdg hcap)
                · have hm := hKS.2.2.2.1 _ hl
                  refine back _ _ (va_runSN (As := As.map (zvr (zro G))) (n := znp c0) hfix hM ⟨va_cnB (znp c0) hts hG rfl rfl rfl hm hini ⟨k4.1, k4.2, k5⟩ hroom, hst, trivial⟩ (preS As rfl) rfl (by rw [List.length_map]; exact f3) hsz rfl (lv_room (zcats_vr rest f4)) hdg hcap)
              · exact absurd hi2.1 f1
            · simp only [zchkI, Bool.and_eq_true, Bool.or_eq_true, decide_eq_true_eq] at hi
              obtain ⟨rfl, hi⟩ := hi
              have hi2 : zkd c0 = 2 ∧ ((zown y, i, c0) ∈ zLM ∨ (zown y, i, c0) ∈ zLH) := by
                rcases hi with hi | hi
                · exact ⟨hi.1.2, hi.2⟩
                · exact absurd hi.1 (by decide)
              rcases zcall_facts s3 with ⟨f1, -⟩ | ⟨f1, o, As', g1, g2, g3, g4, g5, g6⟩
              · rw [f1] at hi2; cases hi2.1
              · obtain ⟨hin1, hnm⟩ : (Cond.instanceMethod (zM c0).1).before args s = true ∧ (zM c0).1.name = "<init>" := by
                  rcases k8 with r | r | r
                  · rw [hi2.1] at r; cases r.1
                  · rw [hi2.1] at r; cases r.1
                  · exact ⟨hts _ (zgd r.2.2.1 rfl), r.2.2.2⟩
                have hret : (zM c0).2.2.2.1 = none := zinit_ret c0 hz255 hi2.1
                have hws : zWS c0 = Cond.code (zM c0).1 (zM c0).2.1 (zmL c0) none :: zTB := by rw [zWS, hret]
                rw [g2, List.map_append, rev, List.map_cons]
                rcases hi2.2 with hl | hl
                · have hm := zLM_ok _ hl
                  refine back _ _ (va_runI (As := As'.map (zvr (zro G))) (b := zro G o) (n := znp c0) (bytes := (zM c0).2.1) (maxL := zmL c0) hfix hM ⟨callB_of (znp c0) hts hG hws rfl rfl hini (hts _ (zgd hm rfl)) ⟨k4.1, k4.2, k5⟩ hroom, hnm, hin1⟩ (preS (.ref o :: As') g1.symm) rfl (by rw [List.length_map]; exact g3) hsz rfl (lv_room (zcats_vr rest g4)) hdg hcap)
                · have hm := hKS.2.2.2.1 _ hl
                  refine back _ _ (va_runIN (As := As'.map (zvr (zro G))) (b := zro G o) (n := znp c0) (bytes := (zM c0).2.1) (maxL := zmL c0) hfix hM ⟨va_cnB (znp c0) hts hG hws rfl rfl hm hini ⟨k4.1, k4.2, k5⟩ hroom, hnm, hin1⟩ (preS (.ref o :: As') g1.symm) rfl (by rw [List.length_map]; exact g3) hsz rfl (lv_room (zcats_vr rest g4)) hdg hcap)
            · simp only [zchkI, Bool.and_eq_true, Bool.or_eq_true, decide_eq_true_eq] at hi
              obtain ⟨rfl, hi⟩ := hi
              have hi2 : zkd c0 = 1 ∧ (zown y, i, c0) ∈ zLM := by
                rcases hi with ((hi | hi) | hi)
                · exact ⟨hi.1.2, hi.2⟩
                all_goals exact absurd hi.1 (by decide)
              rcases zcall_facts s3 with ⟨f1, -⟩ | ⟨f1, o, As', g1, g2, g3, g4, g5, g6⟩
              · rw [f1] at hi2; cases hi2.1
              · have hm := zLM_ok _ hi2.2
                obtain ⟨ho13, hin1, hsel⟩ : zown c0 < 13 ∧ (Cond.instanceMethod (zM c0).1).before args s = true ∧ (Cond.selects (zM c0).1.cls (zM c0).1 (zM c0).1).before args s = true := by
                  rcases k8 with r | r | r
                  · rw [hi2.1] at r; cases r.1
                  · exact ⟨r.2.1, hts _ (zgd r.2.2.1 rfl), hts _ (zgd r.2.2.2 rfl)⟩
                  · rw [hi2.1] at r; cases r.1
                rw [g2, List.map_append, rev, List.map_cons]
                obtain ⟨w1, w2, w3, w4, w5⟩ := zobj hrel g6
                have kc6 := (zOkC_all _ ho13).2.2.2.2.2.1
                have hrecv := va_recv hKS.1 (zP1 w5) (q0 := 0) kc6 rfl
                rw [← w3] at hrecv
                dsimp only at hrecv
                rw [← k7] at hrecv
                have preV : PreV s H (zM c0).1.cls (zro G o) (zPc G As hp) (As'.map (zvr (zro G))) := ⟨zPc_blind, hrecv, fun U hU hW => ⟨by rw [g1]; rfl, zKS.warm hW hKS, by rw [hU]; exact hrel⟩⟩
                refine back _ _ (va_runV (As := As'.map (zvr (zro G))) (n := znp c0) hfix hM ⟨callB_of (znp c0) hts hG rfl rfl rfl hini (hts _ (zgd hm rfl)) ⟨k4.1, k4.2, k5⟩ hroom, hin1, hsel⟩ preV rfl (by rw [List.length_map]; exact g3) hsz rfl (lv_room (zcats_vr rest g4)) hdg hcap)
          refine main ?_
          rcases s4 with ⟨i, rfl⟩ | ⟨i, rfl⟩ | ⟨i, rfl⟩
          · simp only [zchkI, Bool.and_eq_true, Bool.or_eq_true, decide_eq_true_eq] at hi
            rcases hi.2 with ((((hi | hi) | hi) | hi) | hi)
            · exact hi.1.1.2
            all_goals exact absurd hi.1 (by decide)
          · simp only [zchkI, Bool.and_eq_true, Bool.or_eq_true, decide_eq_true_eq] at hi
            rcases hi.2 with hi | hi
            · exact hi.1.1.2
            · exact absurd hi.1 (by decide)
          · simp only [zchkI, Bool.and_eq_true, Bool.or_eq_true, decide_eq_true_eq] at hi
            rcases hi.2 with ((hi | hi) | hi)
            · exact hi.1.1.2
            all_goals exact absurd hi.1 (by decide)
