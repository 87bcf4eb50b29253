/-! A TEN of the class is the real T. -/
section
variable {n b u w h : Nat} {I : am_I} {R : am_R} {Q : am_Q} {V : (Nat → Int32) → Int32} {G : (Nat → Int32) → Prop} {SH : Nat → Int32} {sp : Int32}
theorem real_cT (hk : kk_R R u) (hpp : ∀ p, p < 54 → pp_R R p) (hn2 : n ≤ 25) (hB : bs_at I u n (sp_B w h)) (hS : ∀ c, c < n → I 15 u c = SH c) (hsp : I 14 u 3 = sp) (hbs : I 14 u 4 = nI b) (hV : ∀ (d : Nat) (J : am_I) (p : Nat), am_fr ev_S I J → p < 54 → kk_V G R Q p (d + 6) J V) (hVc : ∀ f g : Nat → Int32, (∀ j, j < 6 → f j = g j) → V f = V g) (hG : ∀ (m : Nat) (P : Nat → Nat → Int32) (q k : Nat), pt_I n b m P → q ≤ 9 → k < n → ¬ P 0 k ≤ 0 → ∀ f : Nat → Int32, (∀ j, j < 6 → f j = sp_let (sp_B w h) SH n (nI q) P k j) → G f) : cT (fun pw P => sp_ten V (sp_B w h) SH sp (nI b) n pw P) n b R Q I := by
  intro d J p m q P hf hp hP hI hm hq
  have e15 : ∀ c, J 15 u c = I 15 u c := fun c => hf _ _ _ (fun w => by unfold ev_S at w; omega)
  have e143 : J 14 u 3 = sp := (hf _ _ _ (fun w => by unfold ev_S at w; omega)).trans hsp
  have e144 : J 14 u 4 = nI b := (hf _ _ _ (fun w => by unfold ev_S at w; omega)).trans hbs
  have hsh : ∀ c, c < n → J 15 u c = SH c := fun c hc => (e15 c).trans (hS c hc)
  obtain ⟨K, g1, g2, g3⟩ := c_passTen (d := d + 5) (Q := Q) (pw := nI q) hk (hpp p hp) hP hI.1 hn2 (bs_fr hB hf (fun j w => by unfold ev_S at w; omega)) (hV d J p hf hp) hVc (fun k hkn hk0 f hff => hG m P q k hI hq hkn hk0 f (fun j hj => by rw [hff j hj, let_sh hsh hkn]))
  rw [ten_sh hsh, e143, e144] at g1 g3
  exact ⟨K, g1, g2, g3⟩
end
