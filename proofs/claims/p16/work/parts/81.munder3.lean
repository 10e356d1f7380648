theorem m_under_all : ∀ fu : Nat, mUnderAt fu := by
  intro fu
  induction fu with
  | zero =>
    intro l G hDD o F z ix lf a b hm av bv hR hM0 hl0 hh hhm hh2 hd2 hb0 hlf hd hfu hab sz
    exact m_under_0 l G hDD o F z ix lf a b hm av bv hR hM0 hl0 hh hhm hh2 hd2 hb0 hlf hd hfu hab sz
  | succ fu ih =>
    intro l G hDD o F z ix lf a b hm av bv hR hM0 hl0 hh hhm hh2 hd2 hb0 hlf hd hfu hab sz
    refine m_under_s l G hDD o F fu z ix lf a b hm av bv ?_ hR hM0 hl0 hh hhm hh2 hd2 hb0 hlf hd hfu hab sz
    intro l G hDD o F z ix lf a b hm hR hM0 hl0 hh hhm hh2 hd2 hb0 hlf hd hfu h0 ha1 hb1 sz
    exact m_asks l G hDD o F fu z ix lf a b hm ih hR hM0 hl0 hh hhm hh2 hd2 hb0 hlf hd hfu h0 ha1 hb1 sz

