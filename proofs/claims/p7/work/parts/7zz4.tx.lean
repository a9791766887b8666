/-! text of both: the relation -/
theorem RE_text {h h1 h2 : AH} {r1 r2 : Option AV} (hJ : k_H JB h) (hJ1 : k_H JB h1) (hJ2 : k_H JB h2) (r : REL h) (E1 : ∀ Q : Option AV → AH → Prop, XC 1000 123 [vR 0] h Q = Q r1 h1) (E2 : ∀ Q : Option AV → AH → Prop, XC 1000 232 [vR 76] h1 Q = Q r2 h2) : r2 = r1 ∧ REL h2 := by
  obtain ⟨z, g2, rz, t2, F2⟩ := TR_tx hJ hJ1 r.1 E1
  obtain ⟨p1, p2⟩ := XC_same E2 F2
  refine ⟨by rw [rz, ← p1], ?_⟩
  have tr : TRp h2 := by rw [← p2]; exact t2
  rcases TR_tx2 hJ hJ1 r.1 E1 E2 with ⟨n, J, cnt, sp, out, tk, m, hJ4, v2, hr, hc, hm⟩ | ⟨v2, e1, e2⟩
  · obtain ⟨⟨fr, g11, g12⟩, hc⟩ := hc
    obtain ⟨⟨fm, f79, g4⟩, hm⟩ := hm
    obtain ⟨q1, ⟨q2, q3⟩, ⟨q4, q5⟩, q6, q7, ⟨CS, q8⟩, q9, q10⟩ := r
    have fJ : fI h 1 2 = (J : Int) := congrArg nmb v2
    have lo : ∀ k i, 1 ≤ k → k < 22 → (k ≠ 1 ∨ i ≠ 2) → hV h2 k i = hV h k i := fun k i a b c => (fm k i (by omega)).trans (fr k i (by omega))
    have mi : ∀ k i, 46 ≤ k → k < 70 → hV h2 k i = hV h k i := fun k i a b => (fm k i (by omega)).trans (fr k i (by omega))
    have a7 : ∀ i, i ≠ 3 → hV h2 77 i = hV h 77 i := fun i a => (fm 77 i (by omega)).trans (fr 77 i (by omega))
    have a8 : ∀ i, hV h2 78 i = hV h 78 i := fun i => (fm 78 i (by omega)).trans (fr 78 i (by omega))
    have g0 : ∀ k i, wrG k i → hV h2 (k + 0) i = hV h (k + 0) i := fun k i g => by
      have b := nowG_r (wrG_n g)
      have c : ¬ (k = 1 ∧ i = 2) := fun y => by
        rcases g with g | g | g
        · have g := of_decide_eq_true g; omega
        · omega
        · omega
      exact lo k i (by omega) (by omega) (by omega)
    have g1 : ∀ k i, nowG k i → hV h2 (k + 10) i = hV h (k + 10) i := fun k i g => by
      have b := nowG_r g
      exact lo (k + 10) i (by omega) (by omega) (by omega)
    have e112 : fI h2 11 2 = fI h 11 2 := fI_g (lo 11 2 (by decide) (by decide) (Or.inl (by decide)))
    have old : ∀ K : Nat, (K : Int) < fI h 1 2 → TXJ h2 K (CS K) := fun K hK => by
      have t := q8 K hK
      rw [fJ] at hK
      refine TXJ_f hJ2 (by omega) (fun k i g => ?_) (fun i i1 i2 => ?_) t
      · unfold tjG at g
        exact (fm k i (by omega)).trans (fr k i (by omega))
      · exact (f79 i (by omega)).trans (fr 79 i (by omega))
    have W0' : WNo h2 0 77 := WNo_f g0 (fun i _ hf => fI_g (a7 i (fun y => hf (by unfold frG; omega)))) q2
    have W1' : WNo h2 10 78 := WNo_f (fun k i g => g1 k i (wrG_n g)) (fun i _ _ => fI_g (a8 i)) q4
    have O1' : OTH h2 10 78 := OTH_f g1 (fI_g (a8 1)) (fI_g (a8 3)) (fI_g (a8 4)) q5
    have Z' : TXZ h2 := TXZ_f (fun i _ => mi 47 i (by decide) (by decide)) (fun i _ => mi 48 i (by decide) (by decide)) (fun i _ => mi 49 i (by decide) (by decide)) q7
    have q9' : rngV (fI h2 59 7) := by rw [fI_g (mi 59 7 (by decide) (by decide))]; exact q9
    have q10' : hV h2 76 25 = vI 0 := ((fm 76 25 (by omega)).trans (fr 76 25 (by omega))).trans q10
    have x1 : fI h2 1 1 = fI h 1 1 := fI_g (lo 1 1 (by decide) (by decide) (Or.inr (by decide)))
    have x3 : fI h2 1 3 = fI h 1 3 := fI_g (lo 1 3 (by decide) (by decide) (Or.inr (by decide)))
    have y1 : fI h2 77 1 = fI h 77 1 := fI_g (a7 1 (by decide))
    have y4 : fI h2 77 4 = fI h 77 4 := fI_g (a7 4 (by decide))
    obtain ⟨⟨o1, o2, o3⟩, o4⟩ := q3
    have o1 : fI h 77 1 = fI h 1 1 := o1
    have o2 : fI h 77 3 = fI h 1 2 := o2
    have o3 : fI h 77 4 = fI h 1 3 := o3
    have o4 : fI h 1 3 < fI h 1 2 := o4
    cases out with
    | inl x =>
      obtain ⟨f, jf⟩ := x
      obtain ⟨hf0, -, c2, c6, c7⟩ := hc
      obtain ⟨-, m3, m5, m6⟩ := hm
      have x2 : fI h2 1 2 = fI h 1 2 := fI_g ((fm 1 2 (by omega)).trans c2)
      have y3 : fI h2 77 3 = fI h 77 3 := fI_g (m3.trans (fr 77 3 (by omega)))
      have O0' : OTH h2 0 77 := ⟨⟨y1.trans (o1.trans x1.symm), y3.trans (o2.trans x2.symm), y4.trans (o3.trans x3.symm)⟩, by
        show fI h2 1 3 < fI h2 1 2
        rw [x3, x2]; exact o4⟩
      exact ⟨tr, ⟨W0', O0'⟩, ⟨W1', O1'⟩, by rw [x2, e112]; exact q6, Z', ⟨CS, fun K hK => old K (by rw [← x2]; exact hK)⟩, q9', q10'⟩
    | inr cs =>
      obtain ⟨⟨-, hraw⟩, c2, c6, c7⟩ := hc
      obtain ⟨⟨-, gm, hg, hgm, hW⟩, m3, m5, m6⟩ := hm
      have x2 : fI h2 1 2 = ((J + 1 : Nat) : Int) := congrArg nmb ((fm 1 2 (by omega)).trans c2)
      have y3 : fI h2 77 3 = ((J + 1 : Nat) : Int) := congrArg nmb m3
      have O0' : OTH h2 0 77 := ⟨⟨y1.trans (o1.trans x1.symm), y3.trans x2.symm, y4.trans (o3.trans x3.symm)⟩, by
        show fI h2 1 3 < fI h2 1 2
        rw [x3, x2]; omega⟩
      have hk : CSk cs := RDo_k m [] 0 hr CSk_0
      have hn : CSn cs := RDo_n m [] 0 hr (fun cl h => by cases h)
      have hv : ∀ cl, cl ∈ cs → CLv cl := RDo_v m [] 0 hr (fun cl h => by cases h)
      obtain ⟨bg, en, kd, ag, L, dd, w1, w2, w3, w4, w5, w6, w7, w8, w9⟩ := hraw
      have raw : RAWT h2 J cs := ⟨bg, en, kd, ag, L, dd, (fm _ _ (by omega)).trans w1, (fm _ _ (by omega)).trans w2, fun i hi => (fm _ _ (by omega)).trans (w3 i hi), fun i hi => (fm _ _ (by omega)).trans (w4 i hi), fun i hi => (fm _ _ (by omega)).trans (w5 i hi), fun i hi => (fm _ _ (by omega)).trans (w6 i hi), fun i hi => (fm _ _ (by omega)).trans (w7 i hi), w8, w9⟩
      have tJ : TXJ h2 J cs := ⟨raw, ⟨gm, (txA J (fI h1 79) cs).1, hg, hW, by rw [hgm]; exact TMR_A cs w9 (fun cl hc => (hk.1 cl hc).2)⟩, hk, hn, hv⟩
      refine ⟨tr, ⟨W0', O0'⟩, ⟨W1', O1'⟩, by rw [x2, e112]; omega, Z', ⟨fun K => if K = J then cs else CS K, fun K hK => ?_⟩, q9', q10'⟩
      show TXJ h2 K (if K = J then cs else CS K)
      rw [x2] at hK
      by_cases y : K = J
      · rw [if_pos y, y]; exact tJ
      · rw [if_neg y]; exact old K (by rw [fJ]; omega)
  · rw [e2, e1]; exact r
