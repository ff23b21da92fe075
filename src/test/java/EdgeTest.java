/**
 * One test for each sentence of the document that names a boundary case. What is wrong is told with the
 * words of the sentence; what is due is reckoned by hand. Refusals have a test of their own, RefusalTest.
 */
public final class EdgeTest {
  private static final int ALL_ENTRIES = 0x7fffffff;

  private static int wrong = 0;
  private static int asked = 0;
  private static String sentence = "";

  public static void main(String[] args) {
    nothingTold();
    tune();
    pitchesAndLengths();
    voices();
    entriesAndHeights();
    still();
    statements();
    statementsOfLaw();
    digits();
    letters();
    faultsOfForm();
    faultsOfRange();
    allOrNothing();
    kinds();
    sounding();
    withoutNotes();
    end();
    agree();
    law();
    illAndFirst();
    firstPair();
    entries();
    entriesOfKinds();
    entriesBesideOthers();
    added();
    addedWhateverRoom();
    silent();
    changed();
    better();
    mirror();
    agreeing();
    range();
    stop();
    unison();
    rows();
    seeds();
    image();
    fullImage();
    onAgain();
    notInTheImage();
    setters();
    counts();
    System.out.println("EdgeTest: " + asked + " answers, " + wrong + " wrong");
    if (wrong != 0) {
      System.exit(1);
    }
  }

  // What all tests use.

  private static void due(String call, long got, long want) {
    asked++;
    if (got != want) {
      wrong++;
      System.out.println("\"" + sentence + "\": " + call + " answered " + got + ", due is " + want);
    }
  }

  private static int tell(OneTuneNine x, String letters) {
    for (int i = 0; i < letters.length(); i++) {
      x.letter(letters.charAt(i));
    }
    return x.canon();
  }

  private static void dueCanon(OneTuneNine x, String letters, int want) {
    due("canon() of " + letters, tell(x, letters), want);
  }

  /** What a new object answers to a text. */
  private static void dueCanon(String letters, int want) {
    dueCanon(new OneTuneNine(), letters, want);
  }

  private static OneTuneNine canonOf(String... texts) {
    OneTuneNine x = new OneTuneNine();
    for (String text : texts) {
      int answer = tell(x, text);
      if (answer <= 0) {
        due("canon() of " + text, answer, 1);
      }
    }
    return x;
  }

  private static OneTuneNine withLaw(OneTuneNine x, int law) {
    x.law(law);
    return x;
  }

  /** As many notes of a length, all of a pitch. */
  private static String notes(int many, int pitch, int length) {
    return ("n" + pitch + length + ";").repeat(many);
  }

  private static void dueCounts(OneTuneNine x, int first, int... want) {
    for (int i = 0; i < want.length; i++) {
      due("count(" + (first + i) + ")", x.count(first + i), want[i]);
    }
  }

  private static void dueSounds(OneTuneNine x, int voice, int from, int... want) {
    for (int i = 0; i < want.length; i++) {
      due("sound(" + voice + ", " + (from + i) + ")", x.sound(voice, from + i), want[i]);
    }
  }

  private static void duePitches(OneTuneNine x, int... want) {
    for (int i = 0; i < want.length; i++) {
      due("note(" + i + ", 0)", x.note(i, 0), want[i]);
    }
    due("note(" + want.length + ", 0)", x.note(want.length, 0), -1);
  }

  private static void dueRow(OneTuneNine x, int... numbers) {
    int before = x.count(7);
    for (int i = 0; i < numbers.length; i++) {
      due("row(" + numbers[i] + ")", x.row(numbers[i]), before + i + 1);
    }
  }

  // Nothing told yet.

  private static void nothingTold() {
    sentence = "No NOTES, no VOICES.";
    OneTuneNine x = new OneTuneNine();
    dueCounts(x, 0, 0, 0, 0, 0);
    sentence = "ROUNDS (1 .. 4: 1 at first), STEP (0 .. 2: 0 at first). LAW (.. 53 at first)";
    dueCounts(x, 4, 1, 0, 53);
    due("rounds(1)", x.rounds(1), 1);
    due("step(0)", x.step(0), 0);
    due("law(53)", x.law(53), 53);
    sentence = "count: 7 in the ROW, 8 letters, 11 .. 16 REFUSALS, of a new object";
    dueCounts(x, 7, 0, 0);
    dueCounts(x, 11, 0, 0, 0, 0, 0, 0);
    sentence = "Without NOTES nothing SOUNDS, of a new object";
    for (int beat : new int[] {0, 1, 60, 399, 400}) {
      due("ill(" + beat + ")", x.ill(beat), 0);
      due("stop(" + beat + ")", x.stop(beat), 0);
      due("who(" + beat + ")", x.who(beat), 0);
    }
    due("first(0)", x.first(0), -9);
    due("first(1)", x.first(1), -9);
    due("allIll()", x.allIll(), 0);
    due("unison()", x.unison(), 0);
    sentence = "by which all agree, of a new object";
    due("entries(0, 0)", x.entries(0, 0), ALL_ENTRIES);
    due("entries(5, 9)", x.entries(5, 9), ALL_ENTRIES);
    due("added()", x.added(), 1023);
    due("silent()", x.silent(), 0);
    due("changed(0)", x.changed(0), 0);
    due("changed(1)", x.changed(1), -9);
    due("better()", x.better(), 0);
    due("mirror()", x.mirror(), 1);
    due("seeds(1, 0)", x.seeds(1, 0), 1);
    due("seeds(20, 0)", x.seeds(20, 0), 20);
    due("image()", x.image(), 0);
    due("on()", x.on(), 0);
    dueCounts(x, 11, 0, 0, 0, 0, 0, 0);
  }

  // The terms.

  private static void tune() {
    sentence = "A TUNE of NOTES 0 .. 11 as they come (12 at most)";
    OneTuneNine x = new OneTuneNine();
    dueCanon(x, "n01;n11;n21;n31;n41;n51;n61;n71;n81;n91;n11;", 11);
    dueCanon(x, "n01;n01;", -2004);
    due("count(0)", x.count(0), 11);
    dueCanon(x, "n71;", 1);
    duePitches(x, 0, 1, 2, 3, 4, 5, 6, 7, 8, 9, 1, 7);
    dueCanon(x, "n01;", -2000);
    due("count(0)", x.count(0), 12);
    dueCanon(notes(12, 3, 1), 12);
    dueCanon(notes(13, 3, 1), -2048);
    dueCanon(notes(20, 3, 1), -2048);
  }

  private static void pitchesAndLengths() {
    sentence = "each a PITCH (0 .. 9)";
    OneTuneNine x = new OneTuneNine();
    dueCanon(x, "n01;n91;", 2);
    duePitches(x, 0, 9);
    dueCanon(x, "n/1;", -1001);
    dueCanon(x, "n:1;", -1001);
    sentence = "and a LENGTH (1 .. 3 BEATS)";
    dueCanon("n00;", -2000);
    dueCanon("n04;", -2000);
    dueCanon("n09;", -2000);
    x = new OneTuneNine();
    dueCanon(x, "n01;n02;n03;", 3);
    for (int note = 0; note < 3; note++) {
      due("note(" + note + ", 1)", x.note(note, 1), note + 1);
    }
    sentence = "BEATS of the TUNE: all LENGTHS";
    due("count(2)", x.count(2), 6);
    due("count(2) of the shortest", canonOf("n91;").count(2), 1);
    x = canonOf(notes(12, 0, 3));
    due("count(2) of the longest", x.count(2), 36);
    due("note(11, 1) of the longest", x.note(11, 1), 3);
    sentence = "note: 2 its first BEAT";
    due("note(0, 2)", x.note(0, 2), 0);
    due("note(1, 2)", x.note(1, 2), 3);
    due("note(11, 2)", x.note(11, 2), 33);
  }

  private static void voices() {
    sentence = "VOICES 0 .. 5 as they come (6 at most)";
    OneTuneNine x = new OneTuneNine();
    dueCanon(x, "vx0,0;vf0,1;vs0,2;vt0,3;vb0,4;", 5);
    dueCanon(x, "vv0,0;vv0,0;", -2006);
    due("count(1)", x.count(1), 5);
    dueCanon(x, "vv0,5;", 1);
    for (int voice = 0; voice < 6; voice++) {
      due("voice(" + voice + ", 0)", x.voice(voice, 0), 5 - voice);
      due("voice(" + voice + ", 2)", x.voice(voice, 2), voice);
    }
    dueCanon(x, "vv0,0;", -2000);
    due("count(1)", x.count(1), 6);
    due("voice(6, 0)", x.voice(6, 0), -1);
    dueCanon("vv0,0;".repeat(6), 6);
    dueCanon("vv0,0;".repeat(7), -2036);
    dueCanon("vv0,0;".repeat(13), -2036);
  }

  private static void entriesAndHeights() {
    sentence = "ENTRY (a BEAT 0 .. 60)";
    OneTuneNine x = new OneTuneNine();
    dueCanon(x, "vv0,0;vv60,0;", 2);
    due("voice(0, 1)", x.voice(0, 1), 0);
    due("voice(1, 1)", x.voice(1, 1), 60);
    dueCanon("vv61,0;", -2000);
    dueCanon("vv99,0;", -2000);
    sentence = "HIGH (0 .. 9)";
    x = new OneTuneNine();
    dueCanon(x, "vv0,0;vv0,9;", 2);
    due("voice(0, 2)", x.voice(0, 2), 0);
    due("voice(1, 2)", x.voice(1, 2), 9);
    dueCanon("vv0,/;", -1004);
    dueCanon("vv0,:;", -1004);
    dueCanon("vv0,10;", -1005);
  }

  private static void still() {
    sentence = "voice: 4 the first BEAT at which it is still for good (without NOTES its ENTRY)";
    OneTuneNine x = canonOf("vv0,0;vs60,0;r42;");
    due("voice(0, 4)", x.voice(0, 4), 0);
    due("voice(1, 4)", x.voice(1, 4), 60);
    due("voice(1, 3)", x.voice(1, 3), 0);
    tell(x, notes(12, 0, 3));
    due("voice(0, 3)", x.voice(0, 3), 36);
    due("voice(1, 3)", x.voice(1, 3), 72);
    due("voice(0, 4)", x.voice(0, 4), 144);
    due("voice(1, 4)", x.voice(1, 4), 348);
    due("sound(1, 347)", x.sound(1, 347), 6);
    due("sound(1, 348)", x.sound(1, 348), 999);
  }

  private static void statements() {
    sentence = "\"r\" ROUNDS (1 .. 4)";
    dueCanon("r00;", -2000);
    dueCanon("r50;", -2000);
    dueCanon("r90;", -2000);
    for (int rounds = 1; rounds <= 4; rounds++) {
      OneTuneNine x = new OneTuneNine();
      dueCanon(x, "r" + rounds + "0;", 1);
      dueCounts(x, 4, rounds, 0);
    }
    sentence = "\"r\" .. STEP (0 .. 2)";
    dueCanon("r13;", -2000);
    dueCanon("r19;", -2000);
    for (int step = 0; step <= 2; step++) {
      OneTuneNine x = new OneTuneNine();
      dueCanon(x, "r1" + step + ";", 1);
      dueCounts(x, 4, 1, step);
    }
  }

  private static void statementsOfLaw() {
    sentence = "\"w\" a digit (0 .. 6): it sounds well (told again: not)";
    for (int digit = 0; digit <= 6; digit++) {
      OneTuneNine x = withLaw(new OneTuneNine(), 0);
      String once = "w" + digit + ";";
      dueCanon(x, once, 1);
      due("count(6)", x.count(6), 1 << digit);
      dueCanon(x, once, 1);
      due("count(6)", x.count(6), 0);
      dueCanon(x, once + once + once, 3);
      due("count(6)", x.count(6), 1 << digit);
    }
    dueCanon("w7;", -2000);
    dueCanon("w9;", -2000);
    OneTuneNine x = new OneTuneNine();
    dueCanon(x, "w0;w1;w2;w3;w4;w5;w6;", 7);
    due("count(6)", x.count(6), 127 - 53);
  }

  private static void digits() {
    sentence = "ENTRY (1 or 2 digits)";
    dueCanon("vv,0;", -1002);
    OneTuneNine x = new OneTuneNine();
    dueCanon(x, "vv5,0;vv55,0;", 2);
    due("voice(0, 1)", x.voice(0, 1), 5);
    due("voice(1, 1)", x.voice(1, 1), 55);
    dueCanon("vv555,0;", -1004);
    sentence = "Numbers may begin with 0.";
    x = new OneTuneNine();
    dueCanon(x, "vv00,0;vv09,0;n03;", 3);
    due("voice(0, 1)", x.voice(0, 1), 0);
    due("voice(1, 1)", x.voice(1, 1), 9);
    due("note(0, 0)", x.note(0, 0), 0);
    dueCanon("vv000,0;", -1004);
    dueCanon("vv060,0;", -1004);
    sentence = "At least one STATEMENT.";
    due("canon() of no letter", new OneTuneNine().canon(), -1000);
    dueCanon("w0;", 1);
  }

  private static void letters() {
    sentence = "A letter (0 .. 255) comes: how many there are.";
    OneTuneNine x = new OneTuneNine();
    due("letter(0)", x.letter(0), 1);
    due("letter(255)", x.letter(255), 2);
    due("count(8)", x.count(8), 2);
    due("letter(-1)", x.letter(-1), -4);
    due("letter(256)", x.letter(256), -6);
    due("count(8)", x.count(8), 2);
    sentence = "A CANON is told in letters, one by one (80 at most)";
    x = new OneTuneNine();
    String full = "r11;r22;".repeat(10);
    for (int i = 0; i < 79; i++) {
      x.letter(full.charAt(i));
    }
    due("the 80th letter", x.letter(';'), 80);
    due("the 81st letter", x.letter('w'), -6);
    due("count(8)", x.count(8), 80);
    due("canon() of 80 letters", x.canon(), 20);
    dueCounts(x, 4, 2, 2);
    sentence = "canon: The letters become a CANON, and are no more";
    due("count(8)", x.count(8), 0);
    due("the next letter", x.letter('w'), 1);
    due("the next letter", x.letter('0'), 2);
    due("the next letter", x.letter(';'), 3);
    due("canon()", x.canon(), 1);
    due("count(6)", x.count(6), 52);
    due("canon() again", x.canon(), -1000);
    sentence = "(with a FAULT neither)";
    dueCanon(x, "w0", -1002);
    due("count(8)", x.count(8), 0);
    dueCanon(x, "w8;", -2000);
    due("count(8)", x.count(8), 0);
    dueCanon(x, "w0;", 1);
    due("count(6)", x.count(6), 53);
  }

  private static void faultsOfForm() {
    // One with each statement, an entry with one digit and with two, and each kind of a voice.
    String text = "n01;vv7,0;vb60,9;r42;w6;vt0,0;vs1,1;vf10,2;vx01,3;n93;";
    int[] ends = {4, 10, 17, 21, 24, 30, 36, 43, 50, 54};
    sentence = "the place of the first letter with which no CANON can go on (the end, if something lacks)";
    int statements = 0;
    for (int length = 0; length <= text.length(); length++) {
      boolean whole = statements < ends.length && ends[statements] == length;
      if (whole) {
        statements++;
      }
      dueCanon(text.substring(0, length), whole ? statements : -1000 - length);
    }
    sentence = "the place of the first letter with which no CANON can go on: -1000 less the place";
    for (int place = 0; place < text.length(); place++) {
      for (char strange : new char[] {0, 'q', 'N', ' ', '.', '/', ':', 127, 255}) {
        dueCanon(text.substring(0, place) + strange + text.substring(place + 1), -1000 - place);
      }
    }
    sentence = "STATEMENTS, each with \";\" behind";
    dueCanon("n01;;", -1004);
    dueCanon(";n01;", -1000);
    dueCanon("n01n01;", -1003);
    dueCanon("w1w1;", -1002);
    sentence = "\"v\" a letter of a KIND";
    for (char c = 0; c < 256; c++) {
      dueCanon("v" + c + "0,0;", "vbtsfx".indexOf(c) >= 0 ? 1 : -1001);
    }
    sentence = "STATEMENTS: \"n\", \"v\", \"r\", \"w\"";
    for (char c = 0; c < 256; c++) {
      int want = c == 'n' || c == 'r' ? 1 : c == 'v' ? -1001 : c == 'w' ? -1002 : -1000;
      dueCanon(c + "11;", want);
    }
    sentence = "(the end, if something lacks), of 80 letters";
    dueCanon("w0;".repeat(26) + "n0", -1080);
    dueCanon("n01;".repeat(12) + "w0;".repeat(10) + "r1", -1080);
    dueCanon("w0;".repeat(26) + "w?", -1079);
  }

  private static void faultsOfRange() {
    sentence = "FAULT: kind 1 ..; else kind 2";
    dueCanon("n00;n0", -1006);
    dueCanon("w7;?", -1003);
    dueCanon("w7;", -2000);
    dueCanon(notes(13, 0, 1) + "w", -1053);
    sentence = "the place of the first letter of the first STATEMENT that .. is not as it must be";
    dueCanon("w6;w7;w8;w9;", -2003);
    dueCanon("vv60,0;n03;r42;vs61,0;", -2015);
    dueCanon("n01;r10;w0;n04;r50;", -2011);
    dueCanon("n91;r13;n00;", -2004);
    // The last statement of 80 letters.
    dueCanon("w0;".repeat(24) + "r10;r50;", -2076);
    sentence = "behind all ahead of it in the text";
    OneTuneNine x = canonOf(notes(11, 0, 1), "vv0,0;".repeat(5));
    dueCanon(x, "n01;vv0,0;w1;", 3);
    dueCanon(x, "w1;vv0,0;", -2003);
    dueCanon(x, "w1;n01;", -2003);
    dueCanon(canonOf(notes(11, 0, 1)), "n01;vv0,0;n01;", -2010);
    dueCanon(canonOf("vv0,0;".repeat(5)), "n01;vv0,0;vb0,0;", -2010);
    sentence = "the FAULT (nothing is counted)";
    dueCounts(x, 11, 0, 0, 0, 0, 0, 0);
    dueCanon(x, "", -1000);
    dueCounts(x, 11, 0, 0, 0, 0, 0, 0);
  }

  private static void allOrNothing() {
    sentence = "Without FAULT all of it comes, with one nothing.";
    String good = "n51;vx07,9;r42;w0;";
    for (String fault : new String[] {"n00;", "vv61,0;", "r00;", "r13;", "w7;", "n01", "?", "w0;w"}) {
      OneTuneNine x = canonOf("n32;vb3,2;r21;w1;");
      due("whether there is a fault in " + good + fault, tell(x, good + fault) < -999 ? 1 : 0, 1);
      duePitches(x, 3);
      due("voice(0, 0)", x.voice(0, 0), 1);
      due("voice(0, 1)", x.voice(0, 1), 3);
      due("voice(0, 2)", x.voice(0, 2), 2);
      dueCounts(x, 0, 1, 1, 2, 7, 2, 1, 55, 0, 0);
      dueCanon(x, good, 4);
      duePitches(x, 3, 5);
      due("voice(1, 0)", x.voice(1, 0), 5);
      due("voice(1, 1)", x.voice(1, 1), 7);
      due("voice(1, 2)", x.voice(1, 2), 9);
      dueCounts(x, 0, 2, 2, 3, 19, 4, 2, 54, 0, 0);
    }
    sentence = "canon: how many STATEMENTS";
    dueCanon("w0;", 1);
    dueCanon("w0;".repeat(26), 26);
  }

  private static void kinds() {
    // PLAIN is 4 4 7 1; the second round is a step higher.
    String notes = "n42;n71;n11;r21;";
    String[] names = {"v VOICE", "b BACKWARD", "t TURNED", "s SLOW", "f FIFTH", "x CRAB"};
    int[][] rounds = {{4, 4, 7, 1}, {1, 7, 4, 4}, {4, 4, 1, 7}, {4, 4, 4, 4, 7, 7, 1, 1}, {8, 8, 11, 5}, {7, 1, 4, 4}};
    for (int kind = 0; kind < 6; kind++) {
      sentence = names[kind] + ": the first and the last BEAT of each ROUND";
      OneTuneNine x = canonOf(notes, "v" + "vbtsfx".charAt(kind) + "3,2;");
      int[] round = rounds[kind];
      dueSounds(x, 0, 0, 999, 999, 999);
      for (int j = 0; j < round.length; j++) {
        dueSounds(x, 0, 3 + j, round[j] + 2);
        dueSounds(x, 0, 3 + round.length + j, round[j] + 3);
      }
      dueSounds(x, 0, 3 + 2 * round.length, 999, 999);
      due("voice(0, 3)", x.voice(0, 3), round.length);
      due("voice(0, 4)", x.voice(0, 4), 3 + 2 * round.length);
    }
    sentence = "twice the PITCH of NOTE 0 less a VOICE's (may be below 0)";
    OneTuneNine x = canonOf("n01;n91;vt0,0;vt60,0;");
    dueSounds(x, 0, 0, 0, -9, 999);
    dueSounds(x, 1, 60, 0, -9, 999);
    sentence = "twice the PITCH of NOTE 0 less a BACKWARD's (may be below 0)";
    dueSounds(canonOf("n01;n91;vx0,0;"), 0, 0, -9, 0, 999);
    sentence = "PLAIN of j by 2, cut";
    dueSounds(canonOf("n01;n92;vs0,0;"), 0, 0, 0, 0, 9, 9, 9, 9, 999);
    sentence = "of a TUNE of one BEAT";
    for (int kind = 0; kind < 6; kind++) {
      x = canonOf("n51;r42;v" + "vbtsfx".charAt(kind) + "1,0;");
      int own = kind == 4 ? 9 : 5;
      dueSounds(x, 0, 0, 999);
      int beats = kind == 3 ? 2 : 1;
      for (int j = 0; j < 4 * beats; j++) {
        dueSounds(x, 0, 1 + j, own + 2 * (j / beats));
      }
      dueSounds(x, 0, 1 + 4 * beats, 999);
    }
  }

  private static void sounding() {
    sentence = "A VOICE SOUNDS from its ENTRY on";
    OneTuneNine x = canonOf("n21;n31;vv0,0;vv1,0;vv60,0;");
    dueSounds(x, 0, 0, 2, 3, 999);
    dueSounds(x, 1, 0, 999, 2, 3, 999);
    dueSounds(x, 2, 59, 999, 2, 3, 999);
    sentence = "ROUND behind ROUND, as many as ROUNDS: .. and STEP for each ROUND gone by";
    x = canonOf("n21;n31;vv1,9;");
    int[][][] due = {
        {{2, 3}, {2, 3, 2, 3}, {2, 3, 2, 3, 2, 3}, {2, 3, 2, 3, 2, 3, 2, 3}},
        {{2, 3}, {2, 3, 3, 4}, {2, 3, 3, 4, 4, 5}, {2, 3, 3, 4, 4, 5, 5, 6}},
        {{2, 3}, {2, 3, 4, 5}, {2, 3, 4, 5, 6, 7}, {2, 3, 4, 5, 6, 7, 8, 9}}};
    for (int step = 0; step <= 2; step++) {
      for (int rounds = 1; rounds <= 4; rounds++) {
        x.rounds(rounds);
        x.step(step);
        dueSounds(x, 0, 0, 999);
        for (int j = 0; j < 2 * rounds; j++) {
          dueSounds(x, 0, 1 + j, due[step][rounds - 1][j] + 9);
        }
        dueSounds(x, 0, 1 + 2 * rounds, 999);
      }
    }
  }

  private static void withoutNotes() {
    sentence = "Without NOTES nothing SOUNDS.";
    OneTuneNine x = canonOf("vv0,0;vt0,0;vs60,9;r42;w0;");
    for (int beat : new int[] {0, 1, 60, 61, 400}) {
      due("sound(0, " + beat + ")", x.sound(0, beat), 999);
      due("sound(2, " + beat + ")", x.sound(2, beat), 999);
      due("ill(" + beat + ")", x.ill(beat), 0);
      due("stop(" + beat + ")", x.stop(beat), 0);
    }
    due("first(0)", x.first(0), -9);
    due("first(1)", x.first(1), -9);
    due("allIll()", x.allIll(), 0);
    due("unison()", x.unison(), 0);
    due("entries(3, 9)", x.entries(3, 9), ALL_ENTRIES);
    due("silent()", x.silent(), 7);
    due("changed(0)", x.changed(0), 0);
    due("better()", x.better(), 0);
    due("seeds(20, 1)", x.seeds(20, 1), 20);
    dueCounts(x, 2, 0, 0);
  }

  private static void end() {
    sentence = "END: the first BEAT from which on nothing SOUNDS.";
    due("count(3) without voices", canonOf("n03;").count(3), 0);
    due("count(3) of one beat", canonOf("n01;vv0,0;").count(3), 1);
    due("count(3) if the last to come ends first", canonOf("n03;vs0,0;vv2,0;").count(3), 6);
    due("count(3) if both end at once", canonOf("n03;vs0,0;vv3,0;").count(3), 6);
    due("count(3) if the last to come ends last", canonOf("n03;vs0,0;vv4,0;").count(3), 7);
    due("count(3) at the greatest", canonOf(notes(12, 0, 3), "vv0,0;vs60,0;r40;").count(3), 348);
    sentence = "sound: at a BEAT (0 .. 400)";
    OneTuneNine x = canonOf("n71;vv0,0;");
    due("sound(0, 0)", x.sound(0, 0), 7);
    due("sound(0, 400)", x.sound(0, 400), 999);
  }

  private static void agree() {
    sentence = "if their difference (no sign) modulo 7 is one that sounds well";
    // A voice and a fifth differ by 0 to 13, whichever comes first.
    for (int apart = 0; apart <= 13; apart++) {
      String lower = "vv0,0;";
      String higher = apart < 10 ? "vv0," + apart + ";" : "vf0," + (apart - 4) + ";";
      for (String text : new String[] {"n51;" + lower + higher, "n51;" + higher + lower}) {
        OneTuneNine x = canonOf(text);
        for (int law = 0; law < 7; law++) {
          x.law(1 << law);
          due("ill(0) " + apart + " apart, law " + (1 << law), x.ill(0), law == apart % 7 ? 0 : 1);
          x.law(127 - (1 << law));
          due("ill(0) " + apart + " apart, law " + (127 - (1 << law)), x.ill(0), law == apart % 7 ? 1 : 0);
        }
      }
    }
    sentence = "difference (no sign) modulo 7, as great as it can be";
    // The fifth sounds 19 and 28 in its last round, while the turned one sounds 0 and -9 in its first.
    for (String text : new String[] {"n01;n91;r42;vf0,9;vt6,0;", "n01;n91;r42;vt6,0;vf0,9;"}) {
      OneTuneNine x = canonOf(text);
      due("the greater sound at 7", Math.max(x.sound(0, 7), x.sound(1, 7)), 28);
      due("the lesser sound at 7", Math.min(x.sound(0, 7), x.sound(1, 7)), -9);
      for (int law = 0; law < 7; law++) {
        x.law(1 << law);
        due("ill(7), 37 apart, law " + (1 << law), x.ill(7), law == 2 ? 0 : 1);
      }
    }
  }

  private static void law() {
    sentence = "LAW (bits 0 .. 6 of what sounds well: 53 at first)";
    int[] well = {1, 0, 1, 0, 1, 1, 0};
    for (int apart = 0; apart < 7; apart++) {
      due("ill(0) " + apart + " apart", canonOf("n01;vv0,0;vv0," + apart + ";").ill(0), 1 - well[apart]);
    }
    OneTuneNine x = canonOf("n01;vv0,0;vv0,6;");
    due("law(127)", x.law(127), 53);
    due("ill(0) if all sounds well", x.ill(0), 0);
    due("law(0)", x.law(0), 127);
    due("ill(0) if nothing sounds well", x.ill(0), 1);
    x = withLaw(canonOf("n01;vv0,0;vv0,0;"), 0);
    due("ill(0) of the same sound if nothing sounds well", x.ill(0), 1);
  }

  private static void illAndFirst() {
    sentence = "ILL at a BEAT (0 .. 400): pairs of VOICES that SOUND and do not AGREE: how many.";
    OneTuneNine one = withLaw(canonOf("n01;vv0,0;"), 0);
    due("ill(0) of one voice", one.ill(0), 0);
    OneTuneNine x = withLaw(canonOf(notes(12, 0, 3), "vs0,0;".repeat(5) + "vs60,0;", "r40;"), 0);
    due("ill(0)", x.ill(0), 10);
    due("ill(59)", x.ill(59), 10);
    due("ill(60)", x.ill(60), 15);
    due("ill(287)", x.ill(287), 15);
    due("ill(288)", x.ill(288), 0);
    due("ill(400)", x.ill(400), 0);
    sentence = "ALL ILL: pairs at all BEATS together.";
    due("allIll()", x.allIll(), 60 * 10 + 228 * 15);
    x.enter(5, 0);
    due("allIll() at the greatest", x.allIll(), 288 * 15);
    x.law(127);
    due("allIll() if all is well", x.allIll(), 0);
    due("allIll() of one voice", one.allIll(), 0);
    sentence = "FIRST: ..; -9.";
    due("first(0) if all is well", x.first(0), -9);
    due("first(1) if all is well", x.first(1), -9);
    due("first(0) of one voice", one.first(0), -9);
    sentence = "FIRST: the first BEAT with such";
    x.law(0);
    due("first(0) at the first beat", x.first(0), 0);
    due("first(1) if even the same is ill", x.first(1), 1);
    // Only the last notes differ: 0 and 1 against -1, two apart.
    x = withLaw(canonOf("n02;n11;vv0,0;vt0,0;"), 1);
    due("first(0) at the last beat", x.first(0), 2);
    x.enter(0, 60);
    x.enter(1, 60);
    due("first(0) at the last beat", x.first(0), 62);
    due("ill(62)", x.ill(62), 1);
    due("count(3)", x.count(3), 63);
  }

  private static void firstPair() {
    sentence = "the first pair there (10 times the lesser and the other, by the lesser, then the other)";
    // Only six apart is ill: 0 with 6, and 1 with 7.
    for (int pair = 0; pair < 36; pair++) {
      for (int other = pair; other < 36; other++) {
        dueFirstPair(pair / 6, pair % 6, other / 6, other % 6);
      }
    }
    sentence = "FIRST: the first BEAT with such; the first pair there";
    // At beat 0 the voices 1 and 2 are ill, at beat 1 the voices 0 and 3 too.
    OneTuneNine x = withLaw(canonOf("n01;n31;vv1,6;vv0,6;vv0,0;vx1,3;"), 63);
    due("ill(0)", x.ill(0), 1);
    due("ill(1)", x.ill(1), 2);
    due("first(0)", x.first(0), 0);
    due("first(1)", x.first(1), 12);
  }

  /** Two ill pairs, of which one may be the other one or have a voice of it. */
  private static void dueFirstPair(int a, int b, int c, int d) {
    boolean apart = a != c && a != d && b != c && b != d;
    boolean same = a == c;
    if (a >= b || c >= d || !apart && !same) {
      return;
    }
    int[] heights = {3, 3, 3, 3, 3, 3};
    heights[a] = 0;
    heights[b] = 6;
    heights[c] = same ? 0 : 1;
    heights[d] = same ? 6 : 7;
    OneTuneNine x = withLaw(voicesAt(heights), 63);
    due("ill(0) of " + a + b + " and " + c + d, x.ill(0), b == d ? 1 : 2);
    due("first(1) of " + a + b + " and " + c + d, x.first(1), Math.min(10 * a + b, 10 * c + d));
  }

  /** One note, sung at once by voices so high. */
  private static OneTuneNine voicesAt(int... heights) {
    StringBuilder text = new StringBuilder("n01;");
    for (int high : heights) {
      text.append("vv0,").append(high).append(';');
    }
    return canonOf(text.toString());
  }

  // What would be.

  private static void entries() {
    sentence = "the ENTRIES 0 .. 30 (bits)";
    // Nothing sounds well: it must not meet the one that is there.
    OneTuneNine x = withLaw(canonOf(notes(10, 5, 3), "vv0,0;"), 0);
    due("entries(0, 0) behind 30 beats", x.entries(0, 0), 1 << 30);
    due("entries(3, 9) behind 30 beats", x.entries(3, 9), 1 << 30);
    tell(x, "n51;");
    due("entries(0, 0) behind 31 beats", x.entries(0, 0), 0);
    x = withLaw(canonOf(notes(10, 5, 3), "vv60,0;"), 0);
    due("entries(0, 0), 30 beats before 60", x.entries(0, 0), ALL_ENTRIES);
    due("entries(3, 0), 60 beats before 60", x.entries(3, 0), 1);
    tell(x, "n51;");
    due("entries(0, 0), 31 beats before 60", x.entries(0, 0), ALL_ENTRIES >> 1);
    due("entries(3, 0), 62 beats before 60", x.entries(3, 0), 0);
  }

  private static void entriesOfKinds() {
    sentence = "of one VOICE more of a told KIND and HIGH";
    for (int kind = 0; kind < 6; kind++) {
      for (int high = 0; high <= 9; high += 9) {
        // It agrees with one just like it, if they enter at once or do not meet.
        OneTuneNine x = withLaw(canonOf("n01;n11;n31;v" + "vbtsfx".charAt(kind) + "0," + high + ";"), 1);
        int met = kind == 3 ? 1 << 1 | 1 << 2 | 1 << 3 | 1 << 4 | 1 << 5 : 1 << 1 | 1 << 2;
        due("entries(" + kind + ", " + high + ")", x.entries(kind, high), ALL_ENTRIES - met);
      }
    }
  }

  private static void entriesBesideOthers() {
    sentence = "by which it AGREES with all there are";
    OneTuneNine x = canonOf("n01;vv0,0;vv1,1;");
    due("entries(0, 0)", x.entries(0, 0), ALL_ENTRIES - (1 << 1));
    due("entries(0, 1)", x.entries(0, 1), ALL_ENTRIES - (1 << 0));
    due("entries(0, 3)", x.entries(0, 3), ALL_ENTRIES - (1 << 0));
    due("entries(0, 8)", x.entries(0, 8), ALL_ENTRIES - (1 << 0));
    due("entries(0, 5)", x.entries(0, 5), ALL_ENTRIES);
    due("entries(4, 3)", x.entries(4, 3), ALL_ENTRIES - (1 << 1));
    sentence = "throughout";
    // It sounds 0 and 1: entering at 3 it is ill at its last beat alone, at 5 at its first.
    x = canonOf("n01;vv4,0;r21;");
    due("entries(0, 0)", x.entries(0, 0), ALL_ENTRIES - (1 << 3 | 1 << 5));
    sentence = "(they may be ILL among themselves)";
    x = canonOf("n01;vv0,0;vv0,1;");
    due("ill(0)", x.ill(0), 1);
    due("entries(0, 5)", x.entries(0, 5), ALL_ENTRIES);
    due("entries(0, 1)", x.entries(0, 1), ALL_ENTRIES - 1);
    sentence = "of one VOICE more, where there are none and where there are 6";
    due("entries(2, 4)", withLaw(canonOf("n01;n21;"), 0).entries(2, 4), ALL_ENTRIES);
    x = withLaw(canonOf("n01;vv0,0;vv5,0;vv10,0;vv15,0;vv20,0;vv30,0;"), 0);
    int met = 1 << 0 | 1 << 5 | 1 << 10 | 1 << 15 | 1 << 20 | 1 << 30;
    due("entries(0, 0)", x.entries(0, 0), ALL_ENTRIES - met);
    due("count(1)", x.count(1), 6);
    due("entries(0, 0) again", x.entries(0, 0), ALL_ENTRIES - met);
  }

  private static void added() {
    sentence = "PITCHES (bits 0 .. 9) of one NOTE more";
    // The new note meets note 0 alone: only a pitch six away is well.
    OneTuneNine x = withLaw(canonOf("n31;vv0,0;vv1,0;"), 64);
    due("added() beside 3", x.added(), 1 << 9);
    x.pitch(0, 6);
    due("added() beside 6", x.added(), 1 << 0);
    for (int pitch = 0; pitch <= 9; pitch++) {
      x.pitch(0, pitch);
      due("added() beside " + pitch, x.added(), pitch < 4 ? 1 << (pitch + 6) : pitch < 6 ? 0 : 1 << (pitch - 6));
    }
    x.law(65);
    x.pitch(0, 6);
    due("added() beside 6", x.added(), 1 << 0 | 1 << 6);
    x.law(127);
    due("added() if all sounds well", x.added(), 1023);
    x.law(0);
    due("added() if nothing sounds well", x.added(), 0);
  }

  private static void addedWhateverRoom() {
    sentence = "(LENGTH 1; ..)";
    OneTuneNine x = withLaw(canonOf("n31;vv0,0;vv2,0;"), 0);
    due("added() if they do not meet then", x.added(), 1023);
    x.enter(1, 1);
    due("added() if they meet then", x.added(), 0);
    sentence = "(..; whatever room there is)";
    x = withLaw(canonOf("n33;" + notes(11, 0, 3), "vv0,0;vv36,0;"), 64);
    due("added() of a 13th", x.added(), 1 << 9);
    dueCounts(x, 0, 12, 2, 36);
    x.enter(1, 37);
    due("added() of a 13th if they do not meet then", x.added(), 1023);
    x.enter(1, 35);
    due("added() of a 13th where all is ill", x.added(), 0);
    x = withLaw(canonOf("n31;" + notes(11, 0, 1), "vv0,0;vv12,0;"), 64);
    due("added() of a 13th", x.added(), 1 << 9);
    sentence = "by which ALL ILL is 0";
    due("added() beside what is ill", canonOf("n01;vv0,0;vv0,1;").added(), 0);
    due("added() without voices", canonOf("n01;").added(), 1023);
    sentence = "one NOTE more, where there is none";
    // It is NOTE 0 itself: turned over it is the same.
    x = withLaw(canonOf("vv0,0;vt0,6;"), 64);
    due("added()", x.added(), 1023);
    x.law(63);
    due("added()", x.added(), 0);
  }

  private static void silent() {
    sentence = "SILENT: VOICES (bits) without each of which alone ALL ILL is 0.";
    due("silent() of no voice", canonOf("n01;").silent(), 0);
    due("silent() of one", voicesAt(0).silent(), 1);
    due("silent() of two that agree", voicesAt(0, 0).silent(), 3);
    due("silent() of two that do not", voicesAt(0, 1).silent(), 3);
    due("silent() of one if nothing sounds well", withLaw(voicesAt(0), 0).silent(), 1);
    due("silent() of two if nothing sounds well", withLaw(voicesAt(0, 0), 0).silent(), 3);
    due("silent() of three that do not", withLaw(voicesAt(0, 0, 0), 0).silent(), 0);
    due("silent() of six that agree", voicesAt(0, 0, 0, 0, 0, 0).silent(), 63);
    for (int one = 0; one < 6; one++) {
      int[] heights = new int[6];
      heights[one] = 1;
      due("silent() if " + one + " is ill with all", voicesAt(heights).silent(), 1 << one);
    }
    // 0 with 6 and 1 with 7: no voice is in both pairs.
    due("silent() of two pairs", withLaw(voicesAt(0, 6, 1, 7), 63).silent(), 0);
    due("silent() of one pair", withLaw(voicesAt(0, 3, 3, 3, 3, 6), 63).silent(), 1 | 32);
    // Ill pairs at two beats, of which voice 1 is in both; and the same three beats later.
    OneTuneNine x = canonOf("n01;vs0,1;vv0,0;vv1,0;");
    due("silent() of pairs at two beats", x.silent(), 1);
    x.enter(2, 3);
    due("silent() of a pair at one beat", x.silent(), 3);
  }

  /** Two voices, one beat apart, of which only neighbours six apart are well. */
  private static OneTuneNine sixes(int... pitches) {
    StringBuilder text = new StringBuilder();
    for (int pitch : pitches) {
      text.append('n').append(pitch).append("1;");
    }
    return withLaw(canonOf(text.toString(), "vv0,0;vv1,0;"), 64);
  }

  private static void dueChanged(OneTuneNine x, int fewest, int first) {
    due("changed(0)", x.changed(0), fewest);
    due("changed(1)", x.changed(1), first);
  }

  private static void changed() {
    sentence = "CHANGED: the fewest NOTES (0, ..)";
    dueChanged(sixes(3, 9, 3, 9, 3, 9, 3, 9, 3, 9, 3, 9), 0, -9);
    dueChanged(withLaw(canonOf("n01;vv0,0;"), 0), 0, -9);
    dueChanged(withLaw(canonOf("vv0,0;vv0,0;"), 0), 0, -9);
    sentence = "CHANGED: the fewest NOTES (.. 1 ..); for 1: the first such (10 times the NOTE and the PITCH)";
    dueChanged(sixes(3, 9, 3, 9, 3, 9, 3, 9, 3, 9, 3, 0), 1, 119);
    dueChanged(sixes(6, 0, 6, 0, 6, 0, 6, 0, 6, 0, 6, 1), 1, 110);
    dueChanged(sixes(5, 6, 0, 6, 0, 6, 0, 6, 0, 6, 0, 6), 1, 0);
    dueChanged(sixes(0, 3, 9, 3, 9, 3, 9, 3, 9, 3, 9, 3), 1, 9);
    dueChanged(sixes(3, 9, 3, 9, 3, 0, 3, 9, 3, 9, 3, 9), 1, 59);
    // Either note could be another: 7 and 1, or 0 and 6; the first is the one of the lesser note.
    dueChanged(sixes(0, 1), 1, 7);
    // 1 and 8 are alike by seven, and 7 is six away.
    dueChanged(withLaw(sixes(5, 1), 65), 1, 1);
    dueChanged(withLaw(sixes(5, 1), 64), 1, 7);
    sentence = "CHANGED: the fewest NOTES (.. 2); for 1: ..; else -9";
    dueChanged(sixes(0, 9, 3, 9, 3, 9, 3, 9, 3, 9, 3, 0), 2, -9);
    dueChanged(sixes(5, 6, 0, 6, 0, 6, 0, 6, 0, 6, 0, 5), 2, -9);
    dueChanged(sixes(0, 1, 2, 6), 2, -9);
    // Each second note must be 7.
    dueChanged(sixes(1, 1, 1), 1, 17);
    dueChanged(sixes(1, 1, 1, 1), 2, -9);
    dueChanged(sixes(1, 1, 1, 1, 1), 2, -9);
    sentence = "CHANGED: ..; -9";
    dueChanged(sixes(0, 9, 3, 9, 3, 0, 3, 9, 3, 9, 3, 0), -9, -9);
    dueChanged(sixes(1, 1, 1, 1, 1, 1), -9, -9);
    dueChanged(withLaw(sixes(0, 1), 0), -9, -9);
    dueChanged(canonOf("n01;vv0,0;vv0,1;"), -9, -9);
    changedWithinThePitches();
    changedAgain();
    changedByOtherEntries();
    changedAsItSounds();
  }

  private static void changedWithinThePitches() {
    sentence = "CHANGED: the fewest NOTES whose PITCHES can be others (0 .. 9)";
    // Beside 4 and 5 only -2 and 10, -1 and 11 would be six away, so both must be others.
    for (int pitch = 0; pitch <= 9; pitch++) {
      boolean one = pitch < 4 || pitch > 5;
      dueChanged(sixes(pitch, pitch), one ? 1 : 2, one ? (pitch + 6) % 12 : -9);
      due("better() of " + pitch + " twice", sixes(pitch, pitch).better(), one ? 0 : 1);
    }
    // Notes two beats apart meet: 2 lies between notes of this pitch, 3 between those of pitch 1.
    for (int pitch = 0; pitch <= 9; pitch++) {
      String notes = ("n" + pitch + "1;n11;").repeat(3);
      dueChanged(withLaw(canonOf(notes, "vv0,0;vv2,0;"), 64), pitch < 4 || pitch > 5 ? 2 : -9, -9);
    }
    dueChanged(sixes(0, 3, 9, 3, 9, 3, 9, 3, 9, 3, 9, 0), 2, -9);
  }

  private static void changedAgain() {
    sentence = "CHANGED, of one object with other notes";
    OneTuneNine x = sixes(5, 6, 0, 6, 0, 5);
    due("changed(1)", x.changed(1), -9);
    due("better()", x.better(), 1);
    x.pitch(5, 6);
    due("changed(1) if note 0 is ill", x.changed(1), 0);
    due("better()", x.better(), 0);
    x.pitch(0, 0);
    x.pitch(5, 0);
    due("changed(0) if note 5 is ill", x.changed(0), 1);
    due("changed(1) if note 5 is ill", x.changed(1), 56);
    x.law(0);
    due("changed(0) if all is ill", x.changed(0), -9);
    due("better() if all is ill", x.better(), 5);
    x.law(64);
    x.pitch(5, 6);
    due("changed(0) if all is well", x.changed(0), 0);
    due("changed(1) if all is well", x.changed(1), -9);
  }

  private static void changedByOtherEntries() {
    sentence = "CHANGED, BETTER, of one object with other entries and rounds";
    OneTuneNine x = sixes(5, 6, 0, 6);
    due("changed(1), asked first", x.changed(1), 0);
    x.enter(1, 60);
    due("changed(1) if they do not meet", x.changed(1), -9);
    x.enter(1, 1);
    due("changed(1) if they do", x.changed(1), 0);
    x.enter(1, 60);
    due("changed(0) if they do not", x.changed(0), 0);
    x.enter(1, 3);
    due("changed(0) if they meet once", x.changed(0), 1);
    x = withLaw(canonOf("n03;vv0,0;vv0,0;"), 0);
    for (int rounds : new int[] {1, 4, 2}) {
      x.rounds(rounds);
      due("better() of " + rounds + " rounds", x.better(), 3 * rounds);
    }
    sentence = "PITCHES can be others (0 .. 9) so that ALL ILL is 0 (in mind)";
    x = sixes(0, 1, 2, 6);
    dueChanged(x, 2, -9);
    duePitches(x, 0, 1, 2, 6);
    due("allIll()", x.allIll(), 3);
    x.pitch(1, 6);
    x.pitch(2, 0);
    dueChanged(x, 0, -9);
  }

  /** What is tried is not the bare pitches: it is what the voices sound. */
  private static void changedAsItSounds() {
    sentence = "CHANGED, BETTER, ADDED of VOICES so HIGH";
    for (String voices : new String[] {"vv0,3;vv1,0;", "vv1,0;vv0,3;", "vv0,9;vv1,6;", "vf0,0;vv1,1;"}) {
      // Note 1 and 3 is beside note 0: it must be 3, and note 0 can't be -2 or 10.
      OneTuneNine x = withLaw(canonOf("n01;n11;", voices), 64);
      dueChanged(x, 1, 13);
      due("better() of " + voices, x.better(), 0);
      due("added() of " + voices, withLaw(canonOf("n01;", voices), 64).added(), 1 << 3);
    }
    sentence = "CHANGED, BETTER, ADDED, with STEP for each ROUND gone by";
    // In the second round the first voice is 2 higher than the other one in its first.
    OneTuneNine x = withLaw(canonOf("n01;r22;vv0,0;vv1,0;"), 64);
    due("added()", x.added(), 0);
    x.enter(1, 2);
    due("added() if they meet in one round each", x.added(), 0);
    x.law(4);
    due("added() if they do, 2 apart", x.added(), 1023);
    sentence = "CHANGED, BETTER of VOICES of which one is TURNED: twice the PITCH of NOTE 0";
    for (String voices : new String[] {"vv0,0;vt0,0;", "vt0,0;vv0,0;", "vb0,0;vx0,0;"}) {
      // They are twice as far apart as the notes: 6, if note 0 is 2.
      x = withLaw(canonOf("n31;n51;", voices), 65);
      due("allIll() of " + voices, x.allIll(), 1);
      dueChanged(x, 1, 2);
      due("better() of " + voices, x.better(), 0);
      x.law(127 - 16);
      dueChanged(x, 1, 0);
      x.law(126);
      dueChanged(x, -9, -9);
    }
    for (String voices : new String[] {"vv0,1;vt0,0;", "vt0,0;vv0,1;"}) {
      // Note 0 is 1 apart from itself, and note 1 is, too, if it is the same.
      x = withLaw(canonOf("n31;n51;", voices), 66);
      dueChanged(x, 1, 5);
      due("better() of " + voices, x.better(), 0);
    }
  }

  private static void better() {
    sentence = "BETTER: the least ALL ILL that one NOTE's PITCH changed (or none) can bring.";
    due("better() if all is well", sixes(3, 9, 3).better(), 0);
    due("better() if the last note mends all", sixes(3, 9, 3, 9, 3, 9, 3, 9, 3, 9, 3, 0).better(), 0);
    due("better() if the first note mends all", sixes(5, 6, 0, 6, 0, 6, 0, 6, 0, 6, 0, 6).better(), 0);
    OneTuneNine x = sixes(0, 9, 3, 9, 3, 0, 3, 9, 3, 9, 3, 0);
    due("allIll()", x.allIll(), 4);
    due("better() if note 5 mends two", x.better(), 2);
    due("note(5, 0)", x.note(5, 0), 0);
    due("better() if no pitch helps", canonOf("n02;vv0,0;vv0,1;").better(), 2);
    x = withLaw(canonOf(notes(12, 0, 3), "vs0,0;".repeat(6), "r40;"), 0);
    due("better() at the greatest", x.better(), 288 * 15);
    due("better() without notes", withLaw(canonOf("vv0,0;vv0,0;"), 0).better(), 0);
    // What is as told is the best: any other note 0 is ill with the one that is behind it.
    due("better() if none is the best", withLaw(canonOf("n01;vv0,0;vv0,0;vv0,1;"), 1).better(), 2);
  }

  private static void mirror() {
    sentence = "MIRROR: whether PLAIN of j and of BEATS less 1 less j are alike for all j.";
    due("mirror() of none", new OneTuneNine().mirror(), 1);
    due("mirror() of one beat", canonOf("n51;").mirror(), 1);
    due("mirror() of 1 2", canonOf("n11;n21;").mirror(), 0);
    due("mirror() of 1 1", canonOf("n11;n11;").mirror(), 1);
    due("mirror() of 1 9 1", canonOf("n11;n91;n11;").mirror(), 1);
    due("mirror() of 1 9 2", canonOf("n11;n91;n21;").mirror(), 0);
    due("mirror() of 1 0 2 1", canonOf("n11;n01;n21;n11;").mirror(), 0);
    due("mirror() of 1 0 0 1", canonOf("n11;n02;n11;").mirror(), 1);
    due("mirror() of 1 1 0, two notes", canonOf("n12;n01;").mirror(), 0);
    due("mirror() of 1 1 1, two notes", canonOf("n12;n11;").mirror(), 1);
    due("mirror() of 1 1 2 1, three notes", canonOf("n12;n21;n11;").mirror(), 0);
    OneTuneNine x = canonOf(notes(12, 5, 3));
    due("mirror() of 36 beats", x.mirror(), 1);
    x.pitch(11, 4);
    due("mirror() if the last is another", x.mirror(), 0);
    x.pitch(0, 4);
    due("mirror() if the first is so too", x.mirror(), 1);
    x.pitch(5, 4);
    due("mirror() if one of the middle is another", x.mirror(), 0);
    x.pitch(6, 4);
    due("mirror() if both of the middle are", x.mirror(), 1);
  }

  private static void agreeing() {
    sentence = "AGREEING: how many TUNES of n NOTES (1 .. 12; LENGTH 1, PITCHES 0 .. 6) there are";
    OneTuneNine x = new OneTuneNine();
    long power = 1;
    for (int n = 1; n <= 12; n++) {
      power *= 7;
      due("agreeing(" + n + ", 12)", x.agreeing(n, 12), power);
      due("agreeing(" + n + ", " + n + ")", x.agreeing(n, n), power);
    }
    sentence = "that, sung once, AGREE with themselves e BEATS (1 .. 12) later (by the LAW as it is)";
    // Pairs of pitches 0, 2, 4 and 5 apart: 7, 10, 6 and 4.
    power = 27;
    for (int e = 1; e <= 11; e++) {
      due("agreeing(" + (e + 1) + ", " + e + ")", x.agreeing(e + 1, e), power);
      power *= 7;
    }
    int[] pairs = {7, 12, 10, 8, 6, 4, 2};
    for (int apart = 0; apart < 7; apart++) {
      x.law(1 << apart);
      due("agreeing(2, 1), law " + (1 << apart), x.agreeing(2, 1), pairs[apart]);
      due("agreeing(12, 6), law " + (1 << apart), x.agreeing(12, 6), Math.round(Math.pow(pairs[apart], 6)));
    }
    due("agreeing(12, 1), law 64", x.agreeing(12, 1), 2);
    x.law(0);
    for (int e = 1; e <= 11; e++) {
      due("agreeing(12, " + e + "), law 0", x.agreeing(12, e), 0);
    }
    due("agreeing(12, 12), law 0", x.agreeing(12, 12), 13841287201L);
    x.law(127);
    for (int e = 1; e <= 12; e++) {
      due("agreeing(12, " + e + "), law 127", x.agreeing(12, e), 13841287201L);
    }
  }

  private static void range() {
    sentence = "RANGE of a VOICE: the least, the greatest of what it SOUNDS";
    OneTuneNine x = canonOf("n51;vv60,0;");
    due("range(0, 0) of one beat", x.range(0, 0), 5);
    due("range(0, 1) of one beat", x.range(0, 1), 5);
    x = canonOf("n01;n91;vt0,0;vx60,0;vv0,0;");
    for (int voice = 0; voice < 2; voice++) {
      due("range(" + voice + ", 0) below 0", x.range(voice, 0), -9);
      due("range(" + voice + ", 1) below 0", x.range(voice, 1), 0);
    }
    due("range(2, 0)", x.range(2, 0), 0);
    due("range(2, 1)", x.range(2, 1), 9);
    sentence = "(ROUNDS, STEP as they are)";
    x = canonOf("n91;n01;vt60,9;r42;");
    due("range(0, 0)", x.range(0, 0), 18);
    due("range(0, 1) at the greatest", x.range(0, 1), 33);
    x.rounds(3);
    due("range(0, 1)", x.range(0, 1), 31);
    x.rounds(1);
    due("range(0, 1)", x.range(0, 1), 27);
    x.rounds(4);
    x.step(0);
    due("range(0, 1)", x.range(0, 1), 27);
    due("range(0, 0)", x.range(0, 0), 18);
    sentence = "range: 999 it SOUNDS nothing";
    x = canonOf("vv0,0;vs60,9;r42;");
    for (int voice = 0; voice < 2; voice++) {
      due("range(" + voice + ", 0)", x.range(voice, 0), 999);
      due("range(" + voice + ", 1)", x.range(voice, 1), 999);
    }
  }

  private static void dueStops(OneTuneNine x, int... beatsAndDue) {
    for (int i = 0; i < beatsAndDue.length; i += 2) {
      due("stop(" + beatsAndDue[i] + ")", x.stop(beatsAndDue[i]), beatsAndDue[i + 1]);
    }
  }

  private static void stop() {
    sentence = "STOP told at a BEAT (0 .. 400): all who have entered by then (or at that BEAT)";
    dueStops(canonOf("n01;vv0,0;"), 0, 1, 1, 1, 400, 1);
    dueStops(canonOf("n03;vv2,0;"), 0, 0, 1, 0, 2, 5, 400, 5);
    dueStops(canonOf("n03;vv60,0;"), 59, 0, 60, 63, 400, 63);
    sentence = "sing the ROUND that they are in at it to its end";
    dueStops(canonOf("n02;n11;vv2,0;r30;"), 2, 5, 4, 5, 5, 8, 7, 8, 8, 11, 10, 11, 11, 11, 12, 11, 400, 11);
    dueStops(canonOf("n02;n11;vs2,0;r20;"), 2, 8, 7, 8, 8, 14, 13, 14, 14, 14, 400, 14);
    dueStops(canonOf("n01;vv0,0;r40;"), 0, 1, 1, 2, 2, 3, 3, 4, 4, 4);
    OneTuneNine x = canonOf(notes(12, 0, 3), "vs60,0;r40;");
    dueStops(x, 59, 0, 60, 132, 131, 132, 132, 204, 275, 276, 276, 348, 347, 348, 348, 348, 400, 348);
    sentence = "nobody enters any more";
    dueStops(canonOf("n03;vv0,0;vv1,0;vv2,0;vv3,0;"), 0, 3, 1, 4, 2, 5, 3, 6, 4, 6);
    sentence = "the first BEAT from which on nothing SOUNDS, if one was still before";
    dueStops(canonOf("n03;vv0,0;vv20,0;"), 3, 3, 10, 3, 19, 3, 20, 23);
    dueStops(canonOf("n03;vv0,0;vs1,0;"), 0, 3, 1, 7, 6, 7, 7, 7);
    sentence = "STOP, if nobody is there";
    dueStops(canonOf("n03;"), 0, 0, 400, 0);
  }

  private static void unison() {
    sentence = "UNISON: at how many BEATS two or more VOICES SOUND just the same.";
    due("unison() of one voice", canonOf("n03;vv0,0;r40;").unison(), 0);
    due("unison() of two", canonOf("n03;vv0,0;vv0,0;").unison(), 3);
    due("unison() of two that meet once", canonOf("n03;vv0,0;vv2,0;").unison(), 1);
    due("unison() of two that do not meet", canonOf("n03;vv0,0;vv3,0;").unison(), 0);
    due("unison() of three", canonOf("n03;vv0,0;vv0,0;vv0,0;").unison(), 3);
    due("unison() of two pairs at once", canonOf("n03;vv0,0;vv0,0;vv0,1;vv0,1;").unison(), 3);
    due("unison() of the first and the last", voicesAt(0, 1, 2, 3, 4, 0).unison(), 1);
    due("unison() of the last two", voicesAt(0, 1, 2, 3, 4, 4).unison(), 1);
    due("unison() seven apart", voicesAt(0, 7).unison(), 0);
    due("unison() one apart", voicesAt(1, 0).unison(), 0);
    due("unison() of a fifth", canonOf("n01;vf0,0;vv0,4;").unison(), 1);
    OneTuneNine x = canonOf(notes(12, 0, 3), "vs60,0;vs60,0;r42;");
    due("unison() at the greatest entries", x.unison(), 288);
  }

  // What is told sounds.

  private static void rows() {
    sentence = "A number more of the ROW (0 .. 60): how many.";
    OneTuneNine x = canonOf("n01;n11;n21;n31;n41;n51;n61;n71;n81;n91;n01;n11;vv1,0;");
    dueRow(x, 0, 60);
    due("row(-1)", x.row(-1), -4);
    due("row(61)", x.row(61), -6);
    due("count(7)", x.count(7), 2);
    sentence = "judge: JUDGED; -9 (whichever it answers, the ROW has none then).";
    due("judge(0, 0)", x.judge(0, 0), 0);
    due("count(7)", x.count(7), 0);
    due("judge(0, 0) of an empty ROW", x.judge(0, 0), -9);
    due("count(7)", x.count(7), 0);
    sentence = "a ROW of numbers (0 .. 60; 12 at most)";
    dueRow(x, 60, 10, 11, 12, 13, 14, 15, 16, 17, 18, 19, 10);
    due("row(11)", x.row(11), -6);
    due("count(7)", x.count(7), 12);
    sentence = "JUDGED: ..; -9";
    due("judge(0, 0)", x.judge(0, 0), -9);
    due("count(7)", x.count(7), 0);
    judged(x);
    heardAtTheEdges();
    who();
  }

  private static void judged(OneTuneNine x) {
    sentence = "JUDGED: the first that is not so";
    dueRow(x, 60, 10, 11, 12, 13, 14, 15, 16, 17, 18, 19, 11);
    due("judge(0, 0), the last", x.judge(0, 0), 11);
    dueRow(x, 59, 10, 11, 12, 13, 14, 15, 16, 17, 18, 19, 11);
    due("judge(0, 0), the first and the last", x.judge(0, 0), 0);
    dueRow(x, 60, 60, 60);
    due("judge(0, 0), the second and the third", x.judge(0, 0), 1);
    sentence = "what a VOICE SOUNDS from a told BEAT on";
    dueRow(x, 10, 11, 12, 13, 14, 15, 16, 17, 18, 19, 10, 11);
    due("judge(0, 1)", x.judge(0, 1), -9);
    dueRow(x, 11, 60, 60);
    due("judge(0, 12)", x.judge(0, 12), -9);
    dueRow(x, 11, 11);
    due("judge(0, 12)", x.judge(0, 12), 1);
    dueRow(x, 60, 60, 60, 60, 60, 60, 60, 60, 60, 60, 60, 60);
    due("who(400)", x.who(400), 1);
    due("judge(0, 400)", x.judge(0, 400), -9);
    dueRow(x, 60, 60, 60, 60, 60, 60, 60, 60, 60, 60, 60, 10);
    due("who(400)", x.who(400), 0);
    due("judge(0, 400)", x.judge(0, 400), 11);
  }

  private static void heardAtTheEdges() {
    sentence = "(10 more than it; 60: nothing)";
    OneTuneNine x = canonOf("n01;n91;vt0,0;");
    dueRow(x, 10, 1, 60);
    due("judge(0, 0) of 0 and -9", x.judge(0, 0), -9);
    dueRow(x, 10, 0);
    due("judge(0, 0) of 0 and -9", x.judge(0, 0), 1);
    dueRow(x, 0);
    due("judge(0, 2) of nothing", x.judge(0, 2), 0);
    x = canonOf("n91;n01;vt0,9;r42;");
    dueRow(x, 43, 60);
    due("judge(0, 7) of 33", x.judge(0, 7), -9);
    x = canonOf("vv0,0;");
    dueRow(x, 60, 60);
    due("judge(0, 0) without notes", x.judge(0, 0), -9);
    dueRow(x, 60, 10);
    due("judge(0, 0) without notes", x.judge(0, 0), 1);
  }

  private static void who() {
    sentence = "WHO: VOICES (bits) for which, from that BEAT on, all are so.";
    OneTuneNine x = canonOf("n01;n11;vv0,0;vv0,0;vv1,0;vs0,0;vt0,0;vv0,1;");
    due("who(0) of an empty ROW", x.who(0), 63);
    dueRow(x, 10);
    due("who(0)", x.who(0), 1 | 2 | 8 | 16);
    due("who(1)", x.who(1), 4 | 8);
    dueRow(x, 11);
    due("who(0)", x.who(0), 1 | 2);
    dueRow(x, 60);
    due("who(0)", x.who(0), 1 | 2);
    due("who(1)", x.who(1), 4);
    sentence = "who: (bits; the ROW stays)";
    due("count(7)", x.count(7), 3);
    due("judge(5, 0)", x.judge(5, 0), 0);
    dueRow(x, 11, 12, 60);
    due("who(0)", x.who(0), 32);
    due("judge(5, 0)", x.judge(5, 0), -9);
    dueRow(x, 60, 60, 60, 60, 60, 60, 60, 60, 60, 60, 60, 60);
    due("who(400)", x.who(400), 63);
    due("who(0)", x.who(0), 0);
    due("who(4)", x.who(4), 63);
    due("who(3)", x.who(3), 63 - 8);
  }

  private static void seeds() {
    sentence = "z becomes z times 1664525 and 1013904223 (an int); (z without its sign's bit by 256, cut) modulo m";
    // Which of the seven laws with one bit is kept tells how far the two notes drawn are apart.
    int[] seeds = {0, 1, -1, 255, 256, 4711, Integer.MAX_VALUE, Integer.MIN_VALUE, Integer.MIN_VALUE + 1};
    for (int z : seeds) {
      OneTuneNine x = canonOf("n01;n01;vv0,0;vv1,0;");
      for (int law = 0; law < 7; law++) {
        x.law(1 << law);
        due("seeds(1, " + z + "), law " + (1 << law), x.seeds(1, z), wellDraws(1, z, 1 << law));
        due("seeds(20, " + z + "), law " + (1 << law), x.seeds(20, z), wellDraws(20, z, 1 << law));
      }
    }
    sentence = "a DRAW .. of which z is negative";
    // From 1015568748 and from 1586005467: -2129264258 is 18219390 without its sign's bit.
    due("the 3rd z from 1", next(next(next(1))), -2129264258);
    due("its draw", drawn(-2129264258), 18219390 / 256 % 10);
    sentence = "SEEDS with a seed z: n times (1 .. 20) each NOTE's PITCH becomes a DRAW below 10";
    OneTuneNine x = withLaw(canonOf("n93;n93;vv0,0;vv3,0;"), 53);
    for (int n = 1; n <= 20; n++) {
      due("seeds(" + n + ", 5)", x.seeds(n, 5), wellDraws(n, 5, 53));
    }
    x.law(127);
    due("seeds(20, 5) if all sounds well", x.seeds(20, 5), 20);
    x.law(0);
    due("seeds(20, 5) if nothing sounds well", x.seeds(20, 5), 0);
    sentence = "each NOTE's PITCH becomes a DRAW .. (in mind)";
    duePitches(x, 9, 9);
    due("note(1, 1)", x.note(1, 1), 3);
    sentence = "seeds: -4; -6 20.";
    due("seeds(0, 5)", x.seeds(0, 5), -4);
    due("seeds(21, 5)", x.seeds(21, 5), -6);
    due("seeds(20, -5)", x.seeds(20, -5), 0);
  }

  private static int next(int z) {
    // Without the wrap-around of int, which is what is asked.
    long far = z * 1664525L + 1013904223L;
    long within = Math.floorMod(far, 1L << 32);
    return (int) (within < 1L << 31 ? within : within - (1L << 32));
  }

  private static int drawn(int z) {
    return (int) ((z < 0 ? z + (1L << 31) : z) / 256 % 10);
  }

  /** Of two notes, the second of which meets the first. */
  private static int wellDraws(int n, int seed, int law) {
    int z = seed;
    int well = 0;
    for (int i = 0; i < n; i++) {
      z = next(z);
      int first = drawn(z);
      z = next(z);
      int apart = Math.abs(drawn(z) - first) % 7;
      well += law >> apart & 1;
    }
    return well;
  }

  // The image, and what is told otherwise.

  private static void image() {
    sentence = "on: ON from it: .. -3 there is none.";
    OneTuneNine x = canonOf("n51;");
    due("on()", x.on(), -3);
    due("count(0)", x.count(0), 1);
    sentence = "THE IMAGE, of a new object";
    x = new OneTuneNine();
    due("image()", x.image(), 0);
    tell(x, "n93;vx60,9;r42;w0;");
    due("on()", x.on(), 0);
    dueCounts(x, 0, 0, 0, 0, 0, 1, 0, 53);
  }

  private static void fullImage() {
    sentence = "THE IMAGE: all that is told, as much as there is room for";
    OneTuneNine x = canonOf(notes(12, 9, 3), "vx60,9;".repeat(6), "r42;w0;w1;w2;w3;w4;w5;w6;");
    due("image()", x.image(), 12);
    for (int note = 0; note < 12; note++) {
      x.pitch(note, 0);
    }
    for (int voice = 0; voice < 6; voice++) {
      x.enter(voice, 0);
    }
    tell(x, "r10;w0;");
    due("on()", x.on(), 12);
    duePitches(x, 9, 9, 9, 9, 9, 9, 9, 9, 9, 9, 9, 9);
    for (int voice = 0; voice < 6; voice++) {
      due("voice(" + voice + ", 0)", x.voice(voice, 0), 5);
      due("voice(" + voice + ", 1)", x.voice(voice, 1), 60);
      due("voice(" + voice + ", 2)", x.voice(voice, 2), 9);
    }
    dueCounts(x, 0, 12, 6, 36, 204, 4, 2, 127 - 53);
  }

  private static void onAgain() {
    sentence = "ON from it all is as then (again, and whatever came since)";
    OneTuneNine x = canonOf("n13;vs7,2;r31;");
    x.image();
    for (int i = 0; i < 3; i++) {
      due("canon()", tell(x, "n22;vb1,1;r42;w6;"), 4);
      dueCounts(x, 0, 2, 2, 5, 47, 4, 2, 53 + 64);
      due("on()", x.on(), 1);
      dueCounts(x, 0, 1, 1, 3, 25, 3, 1, 53);
      due("note(1, 0)", x.note(1, 0), -1);
      due("voice(1, 0)", x.voice(1, 0), -1);
      due("sound(0, 24)", x.sound(0, 24), 5);
    }
    due("image() instead", tell(x, "n01;") + x.image(), 3);
    x.pitch(1, 9);
    due("on()", x.on(), 2);
    duePitches(x, 1, 0);
  }

  private static void notInTheImage() {
    sentence = "(not the ROW, letters, REFUSALS)";
    OneTuneNine x = canonOf("n01;vv0,0;");
    dueRow(x, 10);
    x.letter('w');
    x.ill(-1);
    x.image();
    dueRow(x, 60);
    x.letter('0');
    x.letter(';');
    x.ill(-1);
    x.ill(401);
    due("on()", x.on(), 1);
    dueCounts(x, 6, 53, 2, 3);
    dueCounts(x, 11, 0, 0, 0, 2, 0, 1);
    due("who(0)", x.who(0), 1);
    due("judge(0, 0)", x.judge(0, 0), -9);
    due("canon()", x.canon(), 1);
    due("count(6)", x.count(6), 52);
  }

  private static void setters() {
    sentence = "pitch: PITCH: what it was. -1; -4; -6 9.";
    OneTuneNine x = canonOf(notes(12, 5, 1), "vv7,0;".repeat(6));
    for (int note = 0; note < 12; note += 11) {
      due("pitch(" + note + ", 0)", x.pitch(note, 0), 5);
      due("pitch(" + note + ", 9)", x.pitch(note, 9), 0);
      due("pitch(" + note + ", 10)", x.pitch(note, 10), -6);
      due("pitch(" + note + ", -1)", x.pitch(note, -1), -4);
      due("note(" + note + ", 0)", x.note(note, 0), 9);
    }
    due("pitch(12, 0)", x.pitch(12, 0), -1);
    due("pitch(-1, 0)", x.pitch(-1, 0), -1);
    duePitches(x, 9, 5, 5, 5, 5, 5, 5, 5, 5, 5, 5, 9);
    sentence = "enter: ENTRY: what it was. -1; -4; -6 60.";
    for (int voice = 0; voice < 6; voice += 5) {
      due("enter(" + voice + ", 0)", x.enter(voice, 0), 7);
      due("enter(" + voice + ", 60)", x.enter(voice, 60), 0);
      due("enter(" + voice + ", 61)", x.enter(voice, 61), -6);
      due("enter(" + voice + ", -1)", x.enter(voice, -1), -4);
      due("voice(" + voice + ", 1)", x.voice(voice, 1), 60);
    }
    due("enter(6, 0)", x.enter(6, 0), -1);
    due("enter(-1, 0)", x.enter(-1, 0), -1);
    due("voice(1, 1)", x.voice(1, 1), 7);
    roundsStepLaw(x);
  }

  private static void roundsStepLaw(OneTuneNine x) {
    sentence = "rounds: ROUNDS: what it was. -4; -6 4.";
    due("rounds(4)", x.rounds(4), 1);
    due("rounds(5)", x.rounds(5), -6);
    due("rounds(0)", x.rounds(0), -4);
    due("rounds(1)", x.rounds(1), 4);
    sentence = "step: STEP: what it was. -4; -6 2.";
    due("step(2)", x.step(2), 0);
    due("step(3)", x.step(3), -6);
    due("step(-1)", x.step(-1), -4);
    due("step(0)", x.step(0), 2);
    sentence = "law: LAW (bits): what it was. -4; -6 127.";
    due("law(127)", x.law(127), 53);
    due("law(128)", x.law(128), -6);
    due("law(-1)", x.law(-1), -4);
    due("law(0)", x.law(0), 127);
    dueCounts(x, 4, 1, 0, 0);
  }

  private static void counts() {
    sentence = "count: .. -9 for another what.";
    OneTuneNine x = canonOf("n02;vv3,0;");
    for (int what : new int[] {Integer.MIN_VALUE, -9, -1, 9, 10, 17, 18, 100, Integer.MAX_VALUE}) {
      due("count(" + what + ")", x.count(what), -9);
    }
    dueCounts(x, 0, 1, 1, 2, 5, 1, 0, 53, 0, 0);
    sentence = "count: .. 11 .. 16 REFUSALS -1 .. -6";
    dueCounts(x, 11, 0, 0, 0, 0, 0, 0);
    x.note(1, 0);
    dueCounts(x, 11, 1, 0, 0, 0, 0, 0);
    x.first(2);
    dueCounts(x, 11, 1, 1, 0, 0, 0, 0);
    x.on();
    dueCounts(x, 11, 1, 1, 1, 0, 0, 0);
    x.ill(-1);
    dueCounts(x, 11, 1, 1, 1, 1, 0, 0);
    x.ill(401);
    dueCounts(x, 11, 1, 1, 1, 1, 0, 1);
    sentence = "count: REFUSALS, as many as there can be";
    x = new OneTuneNine();
    for (int i = 0; i < 511; i++) {
      x.on();
    }
    due("count(13)", x.count(13), 511);
  }
}
