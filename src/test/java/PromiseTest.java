/** Each promise by cases reckoned by hand: ordinary inputs, the edges the document names, wrong inputs. */
public final class PromiseTest {
  private static int wrong = 0;
  private static int asked = 0;
  private static String promise = "";

  public static void main(String[] args) {
    newObject();
    letter();
    canonForms();
    canonRanges();
    canonTakesAllOrNothing();
    note();
    voice();
    pitch();
    enter();
    roundsAndStep();
    law();
    soundOfKinds();
    soundOfRounds();
    soundRefused();
    ill();
    first();
    allIll();
    entries();
    added();
    silent();
    changed();
    changedAtTheEdges();
    changedUnderTurned();
    better();
    mirror();
    agreeing();
    range();
    stop();
    unison();
    row();
    who();
    judge();
    seeds();
    imageAndOn();
    count();
    System.out.println("PromiseTest: " + asked + " answers, " + wrong + " wrong");
    if (wrong != 0) {
      System.exit(1);
    }
  }

  private static void due(String call, long got, long want) {
    asked++;
    if (got != want) {
      wrong++;
      System.out.println(promise + ": " + call + " answered " + got + ", due is " + want);
    }
  }

  private static int tell(OneTuneNine x, String letters) {
    for (int i = 0; i < letters.length(); i++) {
      x.letter(letters.charAt(i));
    }
    return x.canon();
  }

  private static OneTuneNine canonOf(String... texts) {
    OneTuneNine x = new OneTuneNine();
    for (String text : texts) {
      int answer = tell(x, text);
      if (answer <= 0) {
        due("canon() of " + text, answer, 1);
      }
    }
    return x;
  }

  private static void dueSounds(OneTuneNine x, int voice, int from, int... want) {
    for (int i = 0; i < want.length; i++) {
      due("sound(" + voice + ", " + (from + i) + ")", x.sound(voice, from + i), want[i]);
    }
  }

  /** The refusals -1 .. -6, in this order. */
  private static void dueRefusals(OneTuneNine x, int... want) {
    for (int i = 0; i < want.length; i++) {
      due("count(" + (11 + i) + ")", x.count(11 + i), want[i]);
    }
  }

  private static void newObject() {
    promise = "1 a new object";
    OneTuneNine x = new OneTuneNine();
    int[] want = {0, 0, 0, 0, 1, 0, 53, 0, 0, -9, -9, 0, 0, 0, 0, 0, 0, -9};
    for (int what = 0; what < want.length; what++) {
      due("count(" + what + ")", x.count(what), want[what]);
    }
    due("on()", x.on(), -3);
  }

  private static void letter() {
    promise = "2 letter";
    OneTuneNine x = new OneTuneNine();
    due("letter(-1)", x.letter(-1), -4);
    due("letter(256)", x.letter(256), -6);
    due("letter(MIN)", x.letter(Integer.MIN_VALUE), -4);
    due("letter(MAX)", x.letter(Integer.MAX_VALUE), -6);
    for (int i = 0; i < 80; i++) {
      due("letter " + i, x.letter(i == 0 ? 0 : i == 1 ? 255 : 'n'), i + 1);
    }
    due("letter(0) when full", x.letter(0), -6);
    due("letter(-1) when full", x.letter(-1), -4);
    due("count(8)", x.count(8), 80);
    dueRefusals(x, 0, 0, 0, 3, 0, 3);
    due("canon()", x.canon(), -1000);
    due("count(8)", x.count(8), 0);
    due("letter", x.letter('n'), 1);
  }

  private static void canonForms() {
    promise = "3 canon, faults of kind 1";
    OneTuneNine x = new OneTuneNine();
    String[] texts = {
        "", "x", ";", "N01;", "n", "n;", "n0", "n0;", "n0a;", "n01", "n01,", "n012;", "n01;;", "n01;n",
        "v", "v0", "vq0,0;", "vv", "vv,0;", "vv1", "vv1;", "vv12", "vv12;", "vv123,0;", "vv1,", "vv1,;", "vv1,2",
        "vv1,23;", "vv12,", "vv12,3", "vv12,34;", "r", "r;", "r1", "r1;", "r1,0;", "r10", "r100;", "w", "w;", "w3",
        "w33;", "w3;n01;v", " n01;", "n01; ", "n9:;", "n/1;"};
    int[] places = {
        0, 0, 0, 0, 1, 1, 2, 2, 2, 3, 3, 3, 4, 5,
        1, 1, 1, 2, 2, 3, 3, 4, 4, 4, 4, 4, 5,
        5, 5, 6, 6, 1, 1, 2, 2, 2, 3, 3, 1, 1, 2,
        2, 8, 0, 4, 2, 1};
    for (int i = 0; i < texts.length; i++) {
      due("canon() of " + texts[i], tell(x, texts[i]), -1000 - places[i]);
      due("count(8)", x.count(8), 0);
    }
    // A fault of form stands before one of range, however late it comes.
    due("canon()", tell(x, "n00;n01;r90;q"), -1012);
    due("canon()", tell(x, "w9;vq"), -1004);
    x.letter('n');
    x.letter(200);
    due("canon() with a strange letter", x.canon(), -1001);
    due("count(0)", x.count(0), 0);
    due("count(6)", x.count(6), 53);
    dueRefusals(x, 0, 0, 0, 0, 0, 0);
  }

  private static void canonRanges() {
    promise = "3 canon, faults of kind 2";
    OneTuneNine x = new OneTuneNine();
    due("n00;", tell(x, "n00;"), -2000);
    due("n04;", tell(x, "n04;"), -2000);
    due("n99;", tell(x, "n01;n99;"), -2004);
    due("vv61,0;", tell(x, "w1;vv61,0;"), -2003);
    due("vx99,9;", tell(x, "vx99,9;"), -2000);
    due("r00;", tell(x, "r00;"), -2000);
    due("r50;", tell(x, "r50;"), -2000);
    due("r13;", tell(x, "r13;r00;"), -2000);
    due("w7;", tell(x, "w0;w7;w8;"), -2003);
    due("count(6)", x.count(6), 53);
    due("12 notes", tell(x, "n01;n01;n01;n01;n01;n01;n01;n01;n01;n01;n01;n01;"), 12);
    due("one more", tell(x, "w0;n01;"), -2003);
    due("count(6)", x.count(6), 53);
    due("6 voices", tell(x, "vv0,0;vb0,0;vt0,0;vs0,0;vf0,0;vx60,9;"), 6);
    due("one more", tell(x, "r42;vv0,0;"), -2004);
    due("count(4)", x.count(4), 1);
    x = new OneTuneNine();
    due("13 notes", tell(x, "n01;n01;n01;n01;n01;n01;n01;n01;n01;n01;n01;n01;n01;"), -2048);
    due("count(0)", x.count(0), 0);
    tell(x, "n01;n01;n01;n01;n01;n01;");
    due("7 behind 6", tell(x, "n01;n01;n01;n01;n01;n01;n01;"), -2024);
    due("count(0)", x.count(0), 6);
    dueRefusals(x, 0, 0, 0, 0, 0, 0);
  }

  private static void canonTakesAllOrNothing() {
    promise = "3 canon";
    OneTuneNine x = new OneTuneNine();
    due("canon()", tell(x, "n93;vx07,9;r42;w0;w6;n01;"), 6);
    due("note(0, 0)", x.note(0, 0), 9);
    due("note(0, 1)", x.note(0, 1), 3);
    due("voice(0, 0)", x.voice(0, 0), 5);
    due("voice(0, 1)", x.voice(0, 1), 7);
    due("voice(0, 2)", x.voice(0, 2), 9);
    due("count(4)", x.count(4), 4);
    due("count(5)", x.count(5), 2);
    due("count(6)", x.count(6), 52 | 64);
    due("w0;w0;w0;", tell(x, "w0;w0;w0;"), 3);
    due("count(6)", x.count(6), 53 | 64);
    due("n11;r21;w7;", tell(x, "n11;vv1,1;r21;w1;w7;"), -2017);
    due("count(0)", x.count(0), 2);
    due("count(1)", x.count(1), 1);
    due("count(4)", x.count(4), 4);
    due("count(6)", x.count(6), 53 | 64);
    due("26 statements", tell(x, "w0;w0;w0;w0;w0;w0;w0;w0;w0;w0;w0;w0;w0;w0;w0;w0;w0;w0;w0;w0;w0;w0;w0;w0;w0;w0;"), 26);
    due("r40;", tell(x, "r40;r10;"), 2);
    due("count(4)", x.count(4), 1);
  }

  private static void note() {
    promise = "4 note";
    OneTuneNine x = canonOf("n03;n91;n52;n41;");
    int[][] want = {{0, 3, 0}, {9, 1, 3}, {5, 2, 4}, {4, 1, 6}};
    for (int i = 0; i < want.length; i++) {
      for (int what = 0; what < 3; what++) {
        due("note(" + i + ", " + what + ")", x.note(i, what), want[i][what]);
      }
    }
    due("note(4, 0)", x.note(4, 0), -1);
    OneTuneNine full = canonOf("n03;n13;n23;n33;n43;n53;n63;n73;n83;n93;n03;n53;");
    due("note(11, 0)", full.note(11, 0), 5);
    due("note(11, 1)", full.note(11, 1), 3);
    due("note(11, 2)", full.note(11, 2), 33);
    due("count(2)", full.count(2), 36);
    due("note(-1, 9)", x.note(-1, 9), -1);
    due("note(0, 3)", x.note(0, 3), -2);
    due("note(0, -1)", x.note(0, -1), -2);
    due("note(MIN, MIN)", x.note(Integer.MIN_VALUE, Integer.MIN_VALUE), -1);
    dueRefusals(x, 3, 2, 0, 0, 0, 0);
  }

  private static void voice() {
    promise = "5 voice";
    OneTuneNine x = canonOf("vv0,0;vb5,1;vt10,2;vs60,3;vf3,4;vx09,9;r30;");
    int[] entry = {0, 5, 10, 60, 3, 9};
    int[] high = {0, 1, 2, 3, 4, 9};
    for (int i = 0; i < 6; i++) {
      due("kind", x.voice(i, 0), i);
      due("entry", x.voice(i, 1), entry[i]);
      due("high", x.voice(i, 2), high[i]);
      due("beats of a round without notes", x.voice(i, 3), 0);
      due("still without notes", x.voice(i, 4), entry[i]);
    }
    tell(x, "n02;n13;");
    for (int i = 0; i < 6; i++) {
      int round = i == 3 ? 10 : 5;
      due("beats of a round", x.voice(i, 3), round);
      due("still", x.voice(i, 4), entry[i] + 3 * round);
    }
    due("voice(6, 0)", x.voice(6, 0), -1);
    due("voice(-1, 7)", x.voice(-1, 7), -1);
    due("voice(0, 5)", x.voice(0, 5), -2);
    due("voice(5, -1)", x.voice(5, -1), -2);
    dueRefusals(x, 2, 2, 0, 0, 0, 0);
  }

  private static void pitch() {
    promise = "6 pitch";
    OneTuneNine x = canonOf("n03;n91;");
    due("pitch(0, 9)", x.pitch(0, 9), 0);
    due("pitch(0, 0)", x.pitch(0, 0), 9);
    due("pitch(1, 4)", x.pitch(1, 4), 9);
    due("pitch(1, 10)", x.pitch(1, 10), -6);
    due("pitch(1, -1)", x.pitch(1, -1), -4);
    due("pitch(2, -1)", x.pitch(2, -1), -1);
    due("pitch(-1, 10)", x.pitch(-1, 10), -1);
    due("note(1, 0)", x.note(1, 0), 4);
    due("note(1, 1)", x.note(1, 1), 1);
    dueRefusals(x, 2, 0, 0, 1, 0, 1);
  }

  private static void enter() {
    promise = "7 enter";
    OneTuneNine x = canonOf("n03;vv7,0;vb0,0;");
    due("enter(0, 60)", x.enter(0, 60), 7);
    due("enter(0, 0)", x.enter(0, 0), 60);
    due("enter(1, 3)", x.enter(1, 3), 0);
    due("enter(1, 61)", x.enter(1, 61), -6);
    due("enter(1, -1)", x.enter(1, -1), -4);
    due("enter(2, -1)", x.enter(2, -1), -1);
    due("enter(-1, 61)", x.enter(-1, 61), -1);
    due("voice(1, 1)", x.voice(1, 1), 3);
    due("count(3)", x.count(3), 6);
    dueRefusals(x, 2, 0, 0, 1, 0, 1);
  }

  private static void roundsAndStep() {
    promise = "8 rounds";
    OneTuneNine x = new OneTuneNine();
    due("rounds(4)", x.rounds(4), 1);
    due("rounds(0)", x.rounds(0), -4);
    due("rounds(5)", x.rounds(5), -6);
    due("rounds(1)", x.rounds(1), 4);
    due("rounds(2)", x.rounds(2), 1);
    due("count(4)", x.count(4), 2);
    promise = "9 step";
    due("step(2)", x.step(2), 0);
    due("step(-1)", x.step(-1), -4);
    due("step(3)", x.step(3), -6);
    due("step(0)", x.step(0), 2);
    due("step(1)", x.step(1), 0);
    due("count(5)", x.count(5), 1);
    dueRefusals(x, 0, 0, 0, 2, 0, 2);
  }

  private static void law() {
    promise = "10 law";
    OneTuneNine x = new OneTuneNine();
    due("law(127)", x.law(127), 53);
    due("law(0)", x.law(0), 127);
    due("law(-1)", x.law(-1), -4);
    due("law(128)", x.law(128), -6);
    due("law(1)", x.law(1), 0);
    due("count(6)", x.count(6), 1);
    dueRefusals(x, 0, 0, 0, 1, 0, 1);
  }

  private static void soundOfKinds() {
    promise = "11 sound, kinds";
    OneTuneNine x = canonOf("n32;n01;n91;", "vv1,0;vb1,1;vt1,2;vs1,3;vf1,0;vx1,0;");
    dueSounds(x, 0, 0, 999, 3, 3, 0, 9, 999);
    dueSounds(x, 1, 0, 999, 10, 1, 4, 4, 999);
    dueSounds(x, 2, 0, 999, 5, 5, 8, -1, 999);
    dueSounds(x, 3, 0, 999, 6, 6, 6, 6, 3, 3, 12, 12, 999);
    dueSounds(x, 4, 0, 999, 7, 7, 4, 13, 999);
    dueSounds(x, 5, 0, 999, -3, 6, 3, 3, 999);
  }

  private static void soundOfRounds() {
    promise = "11 sound, rounds";
    OneTuneNine x = canonOf("n01;n52;r32;vv2,1;vs0,0;vb60,9;");
    dueSounds(x, 0, 1, 999, 1, 6, 6, 3, 8, 8, 5, 10, 10, 999);
    dueSounds(x, 1, 0, 0, 0, 5, 5, 5, 5, 2, 2, 7, 7, 7, 7, 4, 4, 9, 9, 9, 9, 999);
    dueSounds(x, 2, 59, 999, 14, 14, 9, 16, 16, 11, 18, 18, 13, 999);
    x.rounds(1);
    dueSounds(x, 0, 4, 6, 999);
    x.pitch(1, 9);
    dueSounds(x, 0, 3, 10);
    x.enter(0, 3);
    dueSounds(x, 0, 2, 999, 1, 10, 10, 999);
    x = canonOf("vv0,0;");
    dueSounds(x, 0, 0, 999, 999);
  }

  private static void soundRefused() {
    promise = "11 sound, refused";
    OneTuneNine x = canonOf("n01;vv0,0;");
    due("sound(1, 0)", x.sound(1, 0), 1000000001);
    due("sound(-1, -1)", x.sound(-1, -1), 1000000001);
    due("sound(0, -1)", x.sound(0, -1), 1000000004);
    due("sound(0, 401)", x.sound(0, 401), 1000000006);
    due("sound(0, MAX)", x.sound(0, Integer.MAX_VALUE), 1000000006);
    due("sound(0, MIN)", x.sound(0, Integer.MIN_VALUE), 1000000004);
    due("sound(0, 400)", x.sound(0, 400), 999);
    dueRefusals(x, 2, 0, 0, 2, 0, 2);
  }

  /** Three voices on two notes a step apart: 0 1 - against - 0 1 against 1 0 -. */
  private static OneTuneNine seconds() {
    return canonOf("n01;n11;vv0,0;vv1,0;vb0,0;");
  }

  private static void ill() {
    promise = "12 ill";
    OneTuneNine x = seconds();
    due("ill(0)", x.ill(0), 1);
    due("ill(1)", x.ill(1), 2);
    due("ill(2)", x.ill(2), 0);
    due("ill(400)", x.ill(400), 0);
    due("ill(401)", x.ill(401), -6);
    due("ill(-1)", x.ill(-1), -4);
    dueRefusals(x, 0, 0, 0, 1, 0, 1);
    // Differences 7, 8 and 9 are as 0, 1 and 2: 7 and 9 sound well at first, 8 does not.
    for (int high = 7; high <= 9; high++) {
      x = canonOf("n01;vv0,0;vv0," + high + ";");
      due("ill(0) at " + high, x.ill(0), high == 8 ? 1 : 0);
    }
    // 3 against -3: six, with no sign, and law 53 has no bit 6.
    x = canonOf("n31;n91;vv0,0;vt0,0;");
    due("ill(1) of 9 and -3", x.ill(1), 0);
    x.law(0);
    due("ill(1) without law", x.ill(1), 1);
    x.law(32);
    due("ill(1) if 5 sounds well", x.ill(1), 0);
  }

  private static void first() {
    promise = "13 first";
    OneTuneNine x = seconds();
    due("first(0)", x.first(0), 0);
    due("first(1)", x.first(1), 2);
    x.enter(2, 60);
    due("first(0)", x.first(0), 1);
    due("first(1)", x.first(1), 1);
    x.enter(0, 20);
    due("first(0)", x.first(0), -9);
    due("first(1)", x.first(1), -9);
    x.enter(1, 60);
    due("first(0)", x.first(0), 60);
    due("first(1)", x.first(1), 12);
    due("first(2)", x.first(2), -2);
    due("first(-1)", x.first(-1), -2);
    dueRefusals(x, 0, 2, 0, 0, 0, 0);
  }

  private static void allIll() {
    promise = "14 allIll";
    OneTuneNine x = seconds();
    due("allIll()", x.allIll(), 3);
    x.law(127);
    due("allIll()", x.allIll(), 0);
    x.law(0);
    due("allIll()", x.allIll(), 4);
    due("allIll() of a new one", new OneTuneNine().allIll(), 0);
    due("allIll() of one voice", canonOf("n01;vv0,0;w0;").allIll(), 0);
    // The dearest: six voices that never agree, 4 rounds of 72 beats.
    x = canonOf("n03;n03;n03;n03;n03;n03;n03;n03;n03;n03;n03;n03;", "vs0,0;vs0,0;vs0,0;vs0,0;vs0,0;vs60,0;r40;w0;");
    due("allIll()", x.allIll(), 10 * 288 + 5 * 228);
    due("count(3)", x.count(3), 348);
  }

  private static void entries() {
    promise = "15 entries";
    OneTuneNine x = canonOf("n01;n11;vv2,0;");
    // The one there sounds 0 at 2 and 1 at 3; the one more 0 and 1 from its entry on.
    due("entries(0, 0)", x.entries(0, 0), 0x7fffffff & ~(1 << 1 | 1 << 3));
    due("entries(1, 0)", x.entries(1, 0), 0x7fffffff & ~(1 << 2));
    due("entries(0, 9)", x.entries(0, 9), 0x7fffffff & ~(1 << 1 | 1 << 3));
    due("entries(3, 0)", x.entries(3, 0), 0x7fffffff & ~(1 << 0 | 1 << 2 | 1 << 3));
    due("entries(-1, -1)", x.entries(-1, -1), -2);
    due("entries(6, 10)", x.entries(6, 10), -2);
    due("entries(5, -1)", x.entries(5, -1), -4);
    due("entries(5, 10)", x.entries(5, 10), -6);
    dueRefusals(x, 0, 2, 0, 1, 0, 1);
    // Those there may be ill among themselves; six are no hindrance.
    x = canonOf("n01;vv0,0;vv0,1;vv0,0;vv0,1;vv0,0;vv0,1;");
    due("entries(0, 3) beside 0 and 1", x.entries(0, 3), 0x7ffffffe);
    due("entries(0, 5) beside 0 and 1", x.entries(0, 5), 0x7fffffff);
    due("count(1)", x.count(1), 6);
    due("entries without notes", canonOf("vv0,0;w0;").entries(0, 0), 0x7fffffff);
    due("entries of a new one", new OneTuneNine().entries(5, 9), 0x7fffffff);
    // It sings as many rounds as all, each a step higher.
    x = canonOf("n01;vv4,0;r21;");
    due("entries(0, 0)", x.entries(0, 0), 0x7fffffff & ~(1 << 3 | 1 << 5));
  }

  private static void added() {
    promise = "16 added";
    OneTuneNine x = canonOf("n01;vv0,0;vv1,0;");
    // At beat 1 the new note meets note 0: its pitch itself is the difference.
    due("added()", x.added(), 1 << 0 | 1 << 2 | 1 << 4 | 1 << 5 | 1 << 7 | 1 << 9);
    due("count(0)", x.count(0), 1);
    due("count(2)", x.count(2), 1);
    due("added() without voices", canonOf("n01;").added(), 1023);
    due("added() of a new one", new OneTuneNine().added(), 1023);
    x = canonOf("vv0,0;vt0,2;");
    due("added() of the only note", x.added(), 1023);
    x.law(0);
    due("added() of the only note", x.added(), 0);
    // Whatever room there is: a thirteenth.
    x = canonOf("n01;n01;n01;n01;n01;n01;n01;n01;n01;n01;n01;n01;", "vv0,0;vv1,1;");
    due("added() of ill ones", x.added(), 0);
    x.law(2);
    // It meets the 1 of the voice behind: 0, 2 and 9 are 1 or 8 away.
    due("added() of a thirteenth", x.added(), 1 << 0 | 1 << 2 | 1 << 9);
    due("count(0)", x.count(0), 12);
  }

  private static void silent() {
    promise = "17 silent";
    OneTuneNine x = canonOf("n01;vv0,0;vv0,1;vv0,0;");
    due("silent()", x.silent(), 2);
    x.law(127);
    due("silent() if all is well", x.silent(), 7);
    x.law(0);
    due("silent() of three", x.silent(), 0);
    x = canonOf("n01;vv0,0;vv0,1;");
    due("silent() of two", x.silent(), 3);
    due("silent() without notes", canonOf("vv0,0;vv0,1;").silent(), 3);
    due("silent() of a new one", new OneTuneNine().silent(), 0);
    // Ill pairs at two beats that share one voice.
    x = canonOf("n01;vv0,0;vv1,0;vs0,1;");
    due("silent()", x.silent(), 4);
  }

  private static void changed() {
    promise = "18 changed";
    OneTuneNine x = canonOf("n01;n11;n01;vv0,0;vv1,0;");
    // 0 1 0 behind itself: note 1 can become 0, note 0 alone cannot help.
    due("changed(0)", x.changed(0), 1);
    due("changed(1)", x.changed(1), 10);
    x.pitch(1, 0);
    due("changed(0)", x.changed(0), 0);
    due("changed(1)", x.changed(1), -9);
    due("changed(2)", x.changed(2), -2);
    due("changed(-1)", x.changed(-1), -2);
    dueRefusals(x, 0, 2, 0, 0, 0, 0);
    // 0 1 1 0 0 1, only unisons well: two notes apart are needed.
    x = canonOf("n01;n01;n11;n01;n11;n01;vv0,0;vv1,0;w2;w4;w5;");
    due("changed(0)", x.changed(0), 2);
    due("changed(1)", x.changed(1), -9);
    tell(x, "n11;");
    due("changed(0)", x.changed(0), -9);
    due("changed(1)", x.changed(1), -9);
    due("note(2, 0)", x.note(2, 0), 1);
    // Note 0 is behind every turned note.
    x = canonOf("n01;n01;vv0,0;vt0,0;w0;w2;w4;w5;w6;");
    due("changed(0)", x.changed(0), -9);
    tell(x, "w0;");
    x.law(4);
    x.pitch(0, 0);
    due("changed(0)", x.changed(0), -9);
    due("changed(0) of a new one", new OneTuneNine().changed(0), 0);
    // The first is by the note, then the pitch: 7 is as 0, but 2 comes before.
    x = canonOf("n01;n11;vv0,0;vv1,0;w0;");
    due("changed(0)", x.changed(0), 1);
    due("changed(1)", x.changed(1), 3);
  }

  /** Only a difference of 6 sounds well, so that most notes have one pitch or two beside their neighbours. */
  private static OneTuneNine sixes(String notes) {
    OneTuneNine x = canonOf(notes, "vv0,0;vv1,0;");
    x.law(64);
    return x;
  }

  private static void changedAtTheEdges() {
    promise = "18 changed, edges";
    // One note, and just one pitch of it: what is asked first must not matter.
    String[] one = {"n01;n31;n91;", "n91;n61;n01;", "n91;n31;n01;", "n01;n61;n91;"};
    int[] first = {9, 0, 29, 20};
    for (int i = 0; i < one.length; i++) {
      due("changed(1) of " + one[i], sixes(one[i]).changed(1), first[i]);
      due("changed(0) of " + one[i], sixes(one[i]).changed(0), 1);
      due("better() of " + one[i], sixes(one[i]).better(), 0);
    }
    // Two notes: the outermost at 9, at 0, and two that are neighbours.
    String[] two = {"n01;n31;n91;n31;n01;", "n91;n61;n01;n61;n91;", "n01;n11;n21;n61;"};
    int[] least = {1, 1, 2};
    for (int i = 0; i < two.length; i++) {
      String notes = two[i];
      OneTuneNine x = sixes(notes);
      due("changed(1) of " + notes, x.changed(1), -9);
      due("changed(0) of " + notes, x.changed(0), 2);
      due("changed(1) of " + notes, x.changed(1), -9);
      due("better() of " + notes, x.better(), least[i]);
    }
    // Three ill pairs without a note in common to two of them.
    OneTuneNine x = sixes("n01;n01;n61;n61;n01;n01;");
    due("changed(0) of three", x.changed(0), -9);
    due("better() of three", x.better(), 2);
    // The same object, other notes: nothing of what was asked before may stay.
    x = sixes("n01;n31;n91;");
    due("changed(1)", x.changed(1), 9);
    due("pitch(0, 9)", x.pitch(0, 9), 0);
    due("changed(1)", x.changed(1), -9);
    due("pitch(2, 0)", x.pitch(2, 0), 9);
    due("changed(1)", x.changed(1), 29);
    due("changed(0)", x.changed(0), 1);
  }

  private static void changedUnderTurned() {
    promise = "18 changed, turned";
    // 3 against 2 * 0 - 3: note 0 sounds nothing then, but as 2 it brings 3 and 1.
    OneTuneNine x = canonOf("n01;n31;vv0,0;vt0,0;");
    x.law(5);
    due("changed(1)", x.changed(1), 2);
    due("changed(0)", x.changed(0), 1);
    due("better()", x.better(), 0);
    // The crab sounds 5 and 4 against 4 and 3; with note 0 as 0 it sounds -3 and 0 against 0 and 3.
    x = canonOf("n41;n31;vv0,0;vx0,0;");
    dueSounds(x, 1, 0, 5, 4);
    x.law(0);
    due("changed(0) if nothing sounds well", x.changed(0), -9);
    x.law(9);
    due("changed(1)", x.changed(1), 0);
  }

  private static void better() {
    promise = "19 better";
    OneTuneNine x = canonOf("n01;n11;n01;n11;vv0,0;vv1,0;");
    due("allIll()", x.allIll(), 3);
    due("better()", x.better(), 1);
    due("note(1, 0)", x.note(1, 0), 1);
    x.law(127);
    due("better() if all is well", x.better(), 0);
    due("better() of a new one", new OneTuneNine().better(), 0);
    x = canonOf("n01;n01;vv0,0;vv0,1;");
    due("better() if no pitch helps", x.better(), 2);
  }

  private static void mirror() {
    promise = "20 mirror";
    due("mirror() of a new one", new OneTuneNine().mirror(), 1);
    due("mirror() of one", canonOf("n52;").mirror(), 1);
    due("mirror() of 5 5 3 5 5", canonOf("n52;n31;n51;n51;").mirror(), 1);
    due("mirror() of 5 5 3 5", canonOf("n52;n31;n51;").mirror(), 0);
    due("mirror() of 1 2 2 1", canonOf("n11;n22;n11;").mirror(), 1);
    due("mirror() of 1 2 3 1", canonOf("n11;n21;n31;n11;").mirror(), 0);
  }

  private static void agreeing() {
    promise = "21 agreeing";
    OneTuneNine x = new OneTuneNine();
    due("agreeing(1, 1)", x.agreeing(1, 1), 7);
    // 53: differences 0 (7 pairs), 2 (10), 4 (6), 5 (4).
    due("agreeing(2, 1)", x.agreeing(2, 1), 27);
    due("agreeing(3, 2)", x.agreeing(3, 2), 27 * 7);
    due("agreeing(4, 2)", x.agreeing(4, 2), 27 * 27);
    due("agreeing(4, 3)", x.agreeing(4, 3), 27 * 49);
    due("agreeing(4, 12)", x.agreeing(4, 12), 2401);
    x.law(1);
    due("agreeing(12, 1)", x.agreeing(12, 1), 7);
    due("agreeing(12, 5)", x.agreeing(12, 5), 16807);
    x.law(0);
    due("agreeing(12, 11)", x.agreeing(12, 11), 0);
    due("agreeing(12, 12)", x.agreeing(12, 12), 13841287201L);
    x.law(127);
    due("agreeing(12, 1)", x.agreeing(12, 1), 13841287201L);
    x.law(64);
    due("agreeing(12, 1)", x.agreeing(12, 1), 2);
    due("agreeing(0, 13)", x.agreeing(0, 13), 4000000000000000004L);
    due("agreeing(13, 0)", x.agreeing(13, 0), 4000000000000000004L);
    due("agreeing(13, 12)", x.agreeing(13, 12), 4000000000000000006L);
    due("agreeing(12, 13)", x.agreeing(12, 13), 4000000000000000006L);
    dueRefusals(x, 0, 0, 0, 2, 0, 2);
  }

  private static void range() {
    promise = "22 range";
    OneTuneNine x = canonOf("n31;n01;n92;", "vv1,0;vb1,1;vt1,2;vs1,3;vf1,0;vx1,0;");
    int[] least = {0, 1, -1, 3, 4, -3};
    int[] greatest = {9, 10, 8, 12, 13, 6};
    for (int i = 0; i < 6; i++) {
      due("range(" + i + ", 0)", x.range(i, 0), least[i]);
      due("range(" + i + ", 1)", x.range(i, 1), greatest[i]);
    }
    tell(x, "r32;");
    for (int i = 0; i < 6; i++) {
      due("range(" + i + ", 0)", x.range(i, 0), least[i]);
      due("range(" + i + ", 1)", x.range(i, 1), greatest[i] + 4);
    }
    due("range(0, 2)", x.range(0, 2), 1000000002);
    due("range(0, -1)", x.range(0, -1), 1000000002);
    due("range(6, 2)", x.range(6, 2), 1000000001);
    due("range(-1, 0)", x.range(-1, 0), 1000000001);
    dueRefusals(x, 2, 2, 0, 0, 0, 0);
    x = canonOf("vv1,3;");
    due("range(0, 0) without notes", x.range(0, 0), 999);
    due("range(0, 1) without notes", x.range(0, 1), 999);
  }

  private static void stop() {
    promise = "23 stop";
    OneTuneNine x = canonOf("n02;n11;vv2,0;vs4,0;vv30,0;r30;");
    int[][] due = {{0, 0}, {1, 0}, {2, 5}, {3, 5}, {4, 10}, {5, 10}, {9, 11}, {10, 16}, {15, 16}, {16, 22}, {21, 22},
        {22, 22}, {29, 22}, {30, 33}, {33, 36}, {36, 39}, {39, 39}, {400, 39}};
    for (int[] one : due) {
      due("stop(" + one[0] + ")", x.stop(one[0]), one[1]);
    }
    due("stop(-1)", x.stop(-1), -4);
    due("stop(401)", x.stop(401), -6);
    due("count(3)", x.count(3), 39);
    dueRefusals(x, 0, 0, 0, 1, 0, 1);
    due("stop(0) without notes", canonOf("vv0,0;").stop(0), 0);
    due("stop(400) without notes", canonOf("vv9,0;").stop(400), 0);
  }

  private static void unison() {
    promise = "24 unison";
    OneTuneNine x = canonOf("n02;n71;vv0,0;vv1,0;");
    // 0 0 7 - against - 0 0 7: alike at beat 1 alone; 7 and 0 are not just the same.
    due("unison()", x.unison(), 1);
    tell(x, "vv0,0;vv0,7;");
    // Beat 0: 0 - 0 7; 1: 0 0 0 7; 2: 7 0 7 14; 3: - 7 - -.
    due("unison()", x.unison(), 3);
    due("unison() of two alike", canonOf("n01;n12;vv3,1;vv3,1;r20;").unison(), 6);
    due("unison() a step apart", canonOf("n01;n12;vv3,1;vv3,2;r20;").unison(), 0);
    // A voice and a turned one meet at the first note and wherever it comes again.
    due("unison() of a turned one", canonOf("n42;n51;n41;n91;vv0,0;vt0,0;").unison(), 3);
    due("unison() of a new one", new OneTuneNine().unison(), 0);
    due("unison() without notes", canonOf("vv0,0;vv0,0;").unison(), 0);
    due("unison() of one", canonOf("n01;vv0,0;").unison(), 0);
  }

  private static void row() {
    promise = "25 row";
    OneTuneNine x = new OneTuneNine();
    due("row(-1)", x.row(-1), -4);
    due("row(61)", x.row(61), -6);
    for (int i = 0; i < 12; i++) {
      due("row", x.row(i % 2 == 0 ? 60 : 0), i + 1);
    }
    due("row(0) when full", x.row(0), -6);
    due("row(-1) when full", x.row(-1), -4);
    due("count(7)", x.count(7), 12);
    dueRefusals(x, 0, 0, 0, 2, 0, 2);
  }

  private static void who() {
    promise = "26 who";
    OneTuneNine x = canonOf("n01;n11;vv1,0;vv1,0;vv3,0;vt1,0;");
    due("who(0) of no numbers", x.who(0), 15);
    x.row(60);
    due("who(0)", x.who(0), 15);
    due("who(1)", x.who(1), 4);
    x.row(10);
    due("who(0)", x.who(0), 11);
    due("who(2)", x.who(2), 4);
    x.row(11);
    due("who(0)", x.who(0), 3);
    x.row(60);
    due("who(0)", x.who(0), 3);
    due("who(400)", x.who(400), 0);
    due("who(401)", x.who(401), -6);
    due("who(-1)", x.who(-1), -4);
    due("count(7)", x.count(7), 4);
    dueRefusals(x, 0, 0, 0, 1, 0, 1);
    due("who(0) of a new one", new OneTuneNine().who(0), 0);
  }

  private static void judge() {
    promise = "27 judge";
    OneTuneNine x = canonOf("n01;n11;vv1,0;vt1,0;");
    due("judge(0, 0) of no numbers", x.judge(0, 0), -9);
    int[] told = {60, 10, 11, 60};
    for (int number : told) {
      x.row(number);
    }
    due("judge(2, -1)", x.judge(2, -1), -1);
    due("judge(0, -1)", x.judge(0, -1), -4);
    due("judge(0, 401)", x.judge(0, 401), -6);
    due("count(7)", x.count(7), 4);
    dueRefusals(x, 1, 0, 0, 1, 0, 1);
    due("judge(0, 0)", x.judge(0, 0), -9);
    due("count(7)", x.count(7), 0);
    for (int number : told) {
      x.row(number);
    }
    due("judge(1, 0)", x.judge(1, 0), 2);
    due("count(7)", x.count(7), 0);
    x.row(10);
    due("judge(0, 0)", x.judge(0, 0), 0);
    // Turned, the second note is a step below: 9.
    x.row(10);
    x.row(9);
    due("judge(1, 1)", x.judge(1, 1), -9);
    x.row(60);
    x.row(60);
    due("judge(1, 400)", x.judge(1, 400), -9);
  }

  private static void seeds() {
    promise = "28 seeds";
    // Draws from 1: z = 1015568748, 1586005467, -2129264258 (18219390 without its sign's bit).
    OneTuneNine x = canonOf("n01;n01;vv0,0;vv1,0;");
    due("seeds(1, 1)", x.seeds(1, 1), wellByHand(1, 1, 53));
    for (int law = 1; law < 128; law += 7) {
      x.law(law);
      due("seeds(20, -5)", x.seeds(20, -5), wellByHand(20, -5, law));
      due("seeds(7, MIN)", x.seeds(7, Integer.MIN_VALUE), wellByHand(7, Integer.MIN_VALUE, law));
      due("seeds(13, MAX)", x.seeds(13, Integer.MAX_VALUE), wellByHand(13, Integer.MAX_VALUE, law));
    }
    due("note(0, 0)", x.note(0, 0), 0);
    due("seeds(0, 1)", x.seeds(0, 1), -4);
    due("seeds(21, 1)", x.seeds(21, 1), -6);
    dueRefusals(x, 0, 0, 0, 1, 0, 1);
    due("seeds(20, 9) of a new one", new OneTuneNine().seeds(20, 9), 20);
  }

  /** How many of n pairs of draws agree: the one pair that meets is note 1 against note 0. */
  private static int wellByHand(int n, int seed, int law) {
    long z = seed;
    int well = 0;
    for (int i = 0; i < n; i++) {
      long[] drawn = new long[2];
      for (int k = 0; k < 2; k++) {
        z = (int) (z * 1664525L + 1013904223L);
        drawn[k] = ((z < 0 ? z + (1L << 31) : z) / 256) % 10;
      }
      long apart = Math.abs(drawn[0] - drawn[1]) % 7;
      if ((law >> apart) % 2 == 1) {
        well++;
      }
    }
    return well;
  }

  private static void imageAndOn() {
    promise = "29 image, 30 on";
    OneTuneNine x = canonOf("n31;vv4,5;r21;w0;");
    due("on()", x.on(), -3);
    due("image()", x.image(), 1);
    tell(x, "n02;vb0,0;w1;");
    x.pitch(0, 9);
    x.enter(0, 60);
    x.rounds(4);
    x.step(2);
    x.row(7);
    x.letter('n');
    due("on()", x.on(), 1);
    due("note(0, 0)", x.note(0, 0), 3);
    due("voice(0, 0)", x.voice(0, 0), 0);
    due("voice(0, 1)", x.voice(0, 1), 4);
    due("voice(0, 2)", x.voice(0, 2), 5);
    int[] want = {1, 1, 1, 6, 2, 1, 52, 1, 1};
    for (int what = 0; what < want.length; what++) {
      due("count(" + what + ")", x.count(what), want[what]);
    }
    dueRefusals(x, 0, 0, 1, 0, 0, 0);
    // The image stays, and what comes behind it does not change it.
    x.pitch(0, 8);
    due("on()", x.on(), 1);
    due("note(0, 0)", x.note(0, 0), 3);
    x.letter('0');
    x.letter('1');
    x.letter(';');
    due("canon()", x.canon(), 1);
    due("image()", x.image(), 2);
    due("on()", x.on(), 2);
  }

  private static void count() {
    promise = "31 count";
    OneTuneNine x = canonOf("n02;n13;", "vv7,0;vs0,0;r32;");
    int[] want = {2, 2, 5, 30, 3, 2, 53, 0, 0, -9, -9, 0, 0, 0, 0, 0, 0, -9};
    for (int what = 0; what < want.length; what++) {
      due("count(" + what + ")", x.count(what), want[what]);
    }
    due("count(-1)", x.count(-1), -9);
    due("count(MIN)", x.count(Integer.MIN_VALUE), -9);
    due("count(MAX)", x.count(Integer.MAX_VALUE), -9);
    dueRefusals(x, 0, 0, 0, 0, 0, 0);
    due("count(3) without notes", canonOf("vv7,0;").count(3), 0);
    due("count(3) without voices", canonOf("n03;").count(3), 0);
  }
}
