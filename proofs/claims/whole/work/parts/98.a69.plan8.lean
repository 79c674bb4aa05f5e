-- READING: A TOWN WITH A PLAN
theorem ordH_cg9 {d e : Td} (h3 : e 3 = d 3) (h : ∀ w, w < d 3 → e (115 + w) = d (115 + w)) (n : Nat) : ordH e n = ordH d n := by
  unfold ordH
  rw [h3]
  refine congrArg (fun f => (List.range n).flatMap f) (funext fun q => ?_)
  refine List.filter_congr (fun w hw => ?_)
  rw [h w (List.mem_range.mp hw)]
theorem Wf_cg {d e : Td} (he : ∀ j, ¬ j = 4 → j < 139 → e j = d j) (h4 : e 4 ≤ 24) (wf : Wf d) : Wf e := by
  have hb := wf.1
  have e0 := he 0 (by decide) (by decide)
  have e1 := he 1 (by decide) (by decide)
  have e2 := he 2 (by decide) (by decide)
  have e3 := he 3 (by decide) (by decide)
  refine ⟨by rw [e0, e1, e2, e3]; omega, fun i hi => ?_, fun i h1 h2 => ?_, fun i h1 h2 => ?_, fun m hm => ?_, fun p hp => ?_, fun w hw => ?_⟩
  · rw [he (5 + i) (by omega) (by omega), he (13 + i) (by omega) (by omega), he (21 + i) (by omega) (by omega), he (131 + i) (by omega) (by omega)]
    exact wf.2.1 i hi
  · rw [e0] at h1
    rw [he (5 + i) (by omega) (by omega), he (13 + i) (by omega) (by omega), he (21 + i) (by omega) (by omega)]
    exact wf.2.2.1 i h1 h2
  · rw [e3] at h1
    rw [he (131 + i) (by omega) (by omega)]
    exact wf.2.2.2.1 i h1 h2
  · rw [e1] at hm
    rw [e0, he (29 + m) (by omega) (by omega), he (41 + m) (by omega) (by omega), he (53 + m) (by omega) (by omega), he (65 + m) (by omega) (by omega), he (77 + m) (by omega) (by omega)]
    exact wf.2.2.2.2.1 m hm
  · rw [e2] at hp
    rw [he (89 + p) (by omega) (by omega), he (95 + p) (by omega) (by omega), he (101 + p) (by omega) (by omega)]
    exact wf.2.2.2.2.2.1 p hp
  · rw [e3] at hw
    rw [e0, he (107 + w) (by omega) (by omega), he (115 + w) (by omega) (by omega), he (123 + w) (by omega) (by omega)]
    exact wf.2.2.2.2.2.2 w hw
theorem X_tm_cg {t : Nat} {d e : Td} {M : Mem} (he : ∀ j, ¬ j = 4 → j < 139 → e j = d j) (wf : Wf d) (p : X_tm t d M) : X_tm t e M := by
  have hb := wf.1
  have e0 := he 0 (by decide) (by decide)
  have e1 := he 1 (by decide) (by decide)
  have e2 := he 2 (by decide) (by decide)
  have e3 := he 3 (by decide) (by decide)
  have eo : ∀ n, ordH e n = ordH d n := ordH_cg9 e3 (fun w hw => he (115 + w) (by omega) (by omega))
  obtain ⟨⟨a1, a2, a3, a4⟩, ⟨b1, b2, b3⟩, c1, c2, c3, c4, c5⟩ := p
  refine ⟨⟨a1.trans (congrArg nI e0.symm), a2.trans (congrArg nI e1.symm), a3.trans (congrArg nI e2.symm), a4.trans (congrArg nI e3.symm)⟩, ⟨b1.trans (congrArg nI ?_), b2.trans (congrArg nI ?_), b3.trans (congrArg nI ?_)⟩, fun m hm => ?_, fun q hq => ?_, fun w hw => ?_, fun w hw => ?_, fun k hk => ?_⟩
  · exact bt_cg9 8 (fun i hi => (he (5 + i) (by omega) (by omega)).symm)
  · exact bt_cg9 8 (fun i hi => (he (13 + i) (by omega) (by omega)).symm)
  · exact bt_cg9 8 (fun i hi => (he (131 + i) (by omega) (by omega)).symm)
  · rw [e1] at hm
    rw [he (29 + m) (by omega) (by omega), he (41 + m) (by omega) (by omega), he (53 + m) (by omega) (by omega), he (65 + m) (by omega) (by omega), he (77 + m) (by omega) (by omega)]
    exact c1 m hm
  · rw [e2] at hq
    rw [he (89 + q) (by omega) (by omega), he (95 + q) (by omega) (by omega), he (101 + q) (by omega) (by omega)]
    exact c2 q hq
  · rw [e3] at hw
    rw [he (107 + w) (by omega) (by omega), he (115 + w) (by omega) (by omega), he (123 + w) (by omega) (by omega)]
    exact c3 w hw
  · rw [e3] at hw
    rw [eo]
    exact c4 w hw
  · rw [eo]
    exact c5 k hk
theorem plD_wf {d : Td} {z : Pl9} (wf : Wf d) (hz : z.1 ≤ 24) : Wf (plD d z) := Wf_cg (fun j h4 h => plD_lo h4 (by omega)) hz wf
theorem plD_tm {t : Nat} {d : Td} {z : Pl9} {M : Mem} (wf : Wf d) (p : X_tm t d M) : X_tm t (plD d z) M := X_tm_cg (fun j h4 h => plD_lo h4 (by omega)) wf p
