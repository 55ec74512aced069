/-! ===== the model's isBookSound: over a row ===== -/
theorem cov_cg {f f2 : Int → Int} {s A a b : Int} (h : ∀ j : Int, 0 ≤ j → j < s → f j = f2 j) (hc : cov f s A a b) : cov f2 s A a b := fun q q0 q1 => by
  obtain ⟨k, ⟨k0, k1⟩, hk, h1⟩ := hc q q0 q1
  rw [h k k0 k1] at h1
  exact ⟨k, ⟨k0, k1⟩, hk, h1⟩
section ML
variable {F f g : Int → Int} {v : List Value} {s few n t : Int}
theorem fw_lG (hr : Rep f g s F) (ht : Srt f s) (s8 : s ≤ 8) (hv : ∀ j : Int, 0 ≤ j → j < s → cv v j = f j) (h : fwP v s few (pwI s)) (hx : lkX F (cv v 0 % 100) (cv v (s - 1) / 100) n) : n = few := by
  have s0 := hr.1.1
  have p8 := pwI_8 s0 s8
  rcases hx with ⟨n0, hl, hb⟩ | ⟨n1, hf⟩
  · obtain ⟨A, hA, hc, hle⟩ := lk_cv hr ht s8 n0 hl hb
    have hlt : A < pwI s := (set_lt hA.1.1 hA.1.2 s0 s8).mpr (fun r r0 r7 hb => ((hA.2 r r0 r7).mp hb).1)
    have hc := cov_cg (fun j j0 j1 => (hv j j0 j1).symm) hc
    rcases h with ⟨h0, h1⟩ | ⟨h0, ⟨S, S0, S1, S2, S3⟩, h2⟩
    · exact absurd hc (h1 A hA.1.1 hlt)
    · have e1 := h2 A hA.1.1 hlt hc
      have e2 := cv_m hr ht s8 (cov_cg hv S2) n0 hl
      omega
  · rcases h with ⟨h0, -⟩ | ⟨-, ⟨S, S0, S1, S2, S3⟩, -⟩
    · omega
    · exact absurd (cov_cg hv S2) (cv_no hr ht hf)
theorem rm_eqG {F f g rv : Int → Int} {s m2 d p : Int} (hr : Rep f g s F) (hok : okf f s) (hR : RM f s rv) (hm : mxR rv s m2) (hp : isDp F p) (hd : d = cnt f (hoP p) s.toNat) : m2 = d := by
  have m0 : 0 ≤ m2 := by
    rcases hm.2 with e | ⟨r, -, p0, p1⟩ <;> omega
  have h1 := rm_ge (p := p) hr.1.1 hR hm m0
  rcases rm_le hr.1.1 hok hR hm with e | ⟨j, ⟨j0, j1⟩, h2⟩
  · have := (cnt_b f (hoP p) s.toNat).1
    omega
  · have h9 := Rep_at hr j0 j1
    rcases hp with ⟨-, hz⟩ | ⟨-, -, hx, -⟩
    · exact absurd (hz _) (Rep_yes hr j0 j1 rfl).2.1
    · have := hx (f j % 100) (by omega) (by omega)
      rw [dp_e hr, dp_e hr] at this
      omega
/-- the chosen set holds all: nothing is unheld -/
theorem un_z {v : List Value} {N : Nat} {A : Int} (h : ∀ r : Int, 0 ≤ r → r < N → heQ (cv v) N A r) : unC (cv v) N A = 0 := cnt_no N (fun r r0 r1 => @decide_eq_false _ (Classical.propDecidable _) (fun hn => hn (h r r0 r1)))
/-- the chosen ranks, one after the other -/
def pkP (F : Int → Int) (S n : Int) : Prop := sB S (fun r => ∃ j : Int, (0 ≤ j ∧ j < n) ∧ nF F (ltP (chn F j.toNat)) = r)
theorem pk_0 : pkP F 0 0 := sB_cg sB_0 (fun r _ _ => ⟨fun q => q.elim, fun ⟨j, hj, _⟩ => by omega⟩)
end ML
