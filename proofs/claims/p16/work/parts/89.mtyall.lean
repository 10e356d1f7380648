theorem m_typing_all : ∀ fu : Nat, mTyAt fu := by
  intro fu
  induction fu with
  | zero =>
    intro l G hDD o F tr N top gs z ix lf an n lv hm d hTS hn htp hup hC hdf hlv hh hhm hb0 han hh2 hd hfu sz
    exact m_typing_0 l G hDD o F tr N top gs z ix lf an n lv hm d hTS hn htp hup hC hdf hlv hh hhm hb0 han hh2 hd hfu sz
  | succ fu ih =>
    intro l G hDD o F tr N top gs z ix lf an n lv hm d hTS hn htp hup hC hdf hlv hh hhm hb0 han hh2 hd hfu sz
    refine m_typing_s l G hDD o F fu tr N top gs z ix lf an n lv hm d ?_ hTS hn htp hup hC hdf hlv hh hhm hb0 han hh2 hd hfu sz
    intro l G hDD o F tr N top gs z ix lf an n lv hm d hTS hn htp hup hC hdf hlv hh hhm hb0 han hh2 hd hfu h0 sz
    exact m_types l G hDD o F fu tr N top gs z ix lf an n lv hm d ih hTS hn htp hup hC hdf hlv hh hhm hb0 han hh2 hd hfu h0 sz

