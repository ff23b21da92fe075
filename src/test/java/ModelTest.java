import java.util.ArrayList;
import java.util.Arrays;
import java.util.List;
import java.util.Random;
import java.util.regex.Matcher;
import java.util.regex.Pattern;

/**
 * Long runs of calls drawn at random, each answered by the class and by a model that says what the
 * document says in the slowest and plainest way: every sound of every voice at every beat in a table.
 */
public final class ModelTest {
  private static final int RUNS = 200;
  /** The notes of six voices meet here in 722 ways, and in 760 with one note more: few canons have more. */
  private static final String[][] FULL = {
      {"n82;n82;n42;n12;n83;n83;n61;n61;n52;n12;n62;n22;", "vv60,4;vs1,5;vb8,9;vv8,2;vs5,6;vs3,0;r42;"},
      {"n82;n33;n13;n83;n71;n02;n83;n62;n42;n32;n23;n63;", "vs8,8;vv39,6;vt8,4;vs7,4;vf56,1;vs8,2;r42;"},
      {"n03;n03;n03;n03;n03;n03;n03;n03;n03;n03;n03;n03;", "vs60,9;vs60,9;vs60,9;vs60,9;vs60,9;vs60,9;r42;"},
      {"n33;n53;n53;n33;n53;n33;n33;n53;n53;n33;n53;n33;", "vv0,0;vx0,0;vb0,0;vt0,0;vv0,2;vs0,0;r42;"}};
  private static int wrong = 0;
  private static long asked = 0;

  public static void main(String[] args) {
    for (int run = 0; run < RUNS && wrong < 20; run++) {
      run(new Random(7919L * run + 1), run);
    }
    for (int text = 0; text < FULL.length && wrong < 20; text++) {
      for (int law : new int[] {0, 53, 123, 127}) {
        fullRun(FULL[text], law);
      }
    }
    System.out.println("ModelTest: " + RUNS + " runs, " + asked + " answers, " + wrong + " wrong");
    if (wrong != 0) {
      System.exit(1);
    }
  }

  private static void run(Random draw, int run) {
    OneTuneNine x = new OneTuneNine();
    Model m = new Model();
    List<String> calls = new ArrayList<>();
    boolean wild = run % 5 == 4;
    // Some runs have laws that are easy to keep, so that what is well is met often.
    boolean mild = run % 3 == 0;
    for (int i = 0; i < 512; ) {
      if (draw.nextInt(9) == 0) {
        i += tell(draw, x, m, calls, 512 - i, mild);
      } else {
        compare(x, m, calls, draw.nextInt(29), number(draw, wild), number(draw, wild), mild, draw);
        i++;
      }
      if (wrong >= 20) {
        return;
      }
    }
  }

  /** As much told as there is room for, and all that is asked of it. */
  private static void fullRun(String[] texts, int law) {
    OneTuneNine x = new OneTuneNine();
    Model m = new Model();
    List<String> calls = new ArrayList<>();
    for (String text : texts) {
      for (int c : text.toCharArray()) {
        due(calls, "letter(" + c + ")", x.letter(c), m.letter(c));
      }
      due(calls, "canon()", x.canon(), m.canon());
    }
    due(calls, "law(" + law + ")", x.law(law), m.law(law));
    due(calls, "better()", x.better(), m.better());
    due(calls, "added()", x.added(), m.added());
    due(calls, "changed(0)", x.changed(0), m.changed(0));
    due(calls, "changed(1)", x.changed(1), m.changed(1));
    due(calls, "silent()", x.silent(), m.silent());
    due(calls, "seeds(20, " + law + ")", x.seeds(20, law), m.seeds(20, law));
    for (int kind = 0; kind < 6; kind++) {
      due(calls, "entries(" + kind + ", " + kind + ")", x.entries(kind, kind), m.entries(kind, kind));
    }
    due(calls, "allIll()", x.allIll(), m.allIll());
    due(calls, "first(0)", x.first(0), m.first(0));
    due(calls, "first(1)", x.first(1), m.first(1));
    due(calls, "unison()", x.unison(), m.unison());
    due(calls, "count(3)", x.count(3), m.count(3));
  }

  private static int number(Random draw, boolean wild) {
    int[] edges = {Integer.MIN_VALUE, Integer.MAX_VALUE, -1, -2, 400, 401, 127, 128, 60, 61, 255, 256};
    if (draw.nextInt(wild ? 3 : 25) == 0) {
      return edges[draw.nextInt(edges.length)];
    }
    int bound = new int[] {2, 7, 13, 20, 62, 130, 420}[draw.nextInt(7)];
    return draw.nextInt(bound);
  }

  private static int tell(Random draw, OneTuneNine x, Model m, List<String> calls, int left, boolean mild) {
    StringBuilder text = new StringBuilder();
    int many = draw.nextInt(6) + 1;
    for (int i = 0; i < many; i++) {
      text.append(statement(draw, mild));
    }
    if (draw.nextInt(4) == 0 && text.length() > 0) {
      int place = draw.nextInt(text.length());
      String signs = "nvrw0123456789,;btsfxq";
      text.setCharAt(place, signs.charAt(draw.nextInt(signs.length())));
    }
    if (draw.nextInt(12) == 0) {
      text.setLength(draw.nextInt(text.length() + 1));
    }
    int used = 0;
    for (; used < text.length() && used < left - 1; used++) {
      int c = text.charAt(used);
      due(calls, "letter(" + c + ")", x.letter(c), m.letter(c));
    }
    if (used < left) {
      due(calls, "canon()", x.canon(), m.canon());
      used++;
    }
    return used;
  }

  private static String statement(Random draw, boolean mild) {
    switch (draw.nextInt(mild ? 8 : 10)) {
      case 0:
      case 1:
      case 2:
      case 3:
        return "n" + draw.nextInt(10) + (draw.nextInt(30) == 0 ? draw.nextInt(10) : 1 + draw.nextInt(3)) + ";";
      case 4:
      case 5:
      case 6:
        int entry = draw.nextInt(draw.nextInt(10) == 0 ? 64 : 12);
        String told = draw.nextInt(4) == 0 && entry < 10 ? "0" + entry : "" + entry;
        return "v" + "vbtsfx".charAt(draw.nextInt(6)) + told + "," + draw.nextInt(10) + ";";
      case 7:
        return "r" + (draw.nextInt(20) == 0 ? draw.nextInt(10) : 1 + draw.nextInt(4))
            + (draw.nextInt(20) == 0 ? draw.nextInt(10) : draw.nextInt(3)) + ";";
      default:
        return "w" + (draw.nextInt(20) == 0 ? draw.nextInt(10) : draw.nextInt(7)) + ";";
    }
  }

  private static void due(List<String> calls, String call, long got, long want) {
    asked++;
    calls.add(call + " " + want);
    if (got != want) {
      wrong++;
      System.out.println(String.join("\n", calls.subList(Math.max(0, calls.size() - 60), calls.size())));
      System.out.println(call + " answered " + got + ", due is " + want + "\n");
    }
  }

  private static void compare(
      OneTuneNine x, Model m, List<String> calls, int which, int a, int b, boolean mild, Random draw) {
    String two = "(" + a + ", " + b + ")";
    String one = "(" + a + ")";
    int few = draw.nextInt(15) == 0 ? a : draw.nextInt(7);
    switch (which) {
      case 0: due(calls, "note(" + few + ", " + b + ")", x.note(few, b), m.note(few, b)); break;
      case 1: due(calls, "voice(" + few + ", " + b % 6 + ")", x.voice(few, b % 6), m.voice(few, b % 6)); break;
      case 2: due(calls, "pitch(" + few + ", " + b + ")", x.pitch(few, b), m.pitch(few, b)); break;
      case 3: due(calls, "enter(" + few + ", " + b + ")", x.enter(few, b), m.enter(few, b)); break;
      case 4: due(calls, "rounds" + one, x.rounds(a), m.rounds(a)); break;
      case 5: due(calls, "step" + one, x.step(a), m.step(a)); break;
      case 6:
        int law = mild && draw.nextInt(4) != 0 ? 127 & ~(1 << draw.nextInt(7)) : a;
        due(calls, "law(" + law + ")", x.law(law), m.law(law));
        break;
      case 7:
      case 8: due(calls, "sound(" + few + ", " + b + ")", x.sound(few, b), m.sound(few, b)); break;
      case 9: due(calls, "ill" + one, x.ill(a), m.ill(a)); break;
      case 10: due(calls, "first(" + few % 3 + ")", x.first(few % 3), m.first(few % 3)); break;
      case 11: due(calls, "allIll()", x.allIll(), m.allIll()); break;
      case 12: due(calls, "entries(" + few + ", " + b + ")", x.entries(few, b), m.entries(few, b)); break;
      case 13: due(calls, "added()", x.added(), m.added()); break;
      case 14: due(calls, "silent()", x.silent(), m.silent()); break;
      case 15: due(calls, "changed(" + few % 3 + ")", x.changed(few % 3), m.changed(few % 3)); break;
      case 16: due(calls, "better()", x.better(), m.better()); break;
      case 17: due(calls, "mirror()", x.mirror(), m.mirror()); break;
      case 18: due(calls, "agreeing" + two, x.agreeing(a, b), m.agreeing(a, b)); break;
      case 19: due(calls, "range(" + few + ", " + b + ")", x.range(few, b), m.range(few, b)); break;
      case 20: due(calls, "stop" + one, x.stop(a), m.stop(a)); break;
      case 21: due(calls, "unison()", x.unison(), m.unison()); break;
      case 22:
        int heard = draw.nextInt(3) == 0 ? a : m.likelyNumber(draw);
        due(calls, "row(" + heard + ")", x.row(heard), m.row(heard));
        break;
      case 23: due(calls, "who" + one, x.who(a), m.who(a)); break;
      case 24: due(calls, "judge(" + few + ", " + b + ")", x.judge(few, b), m.judge(few, b)); break;
      case 25:
        int seed = draw.nextInt();
        due(calls, "seeds(" + a + ", " + seed + ")", x.seeds(a, seed), m.seeds(a, seed));
        break;
      case 26:
        if (draw.nextInt(3) == 0) {
          due(calls, "image()", x.image(), m.image());
        } else {
          due(calls, "on()", x.on(), m.on());
        }
        break;
      case 27: due(calls, "count(" + b + ")", x.count(b), m.count(b)); break;
      default: due(calls, "letter" + one, x.letter(a), m.letter(a)); break;
    }
  }

  private record Note(int pitch, int length) { }

  private record Voice(char kind, int entry, int high) { }

  /** All that is told, never changed: what would be otherwise is another State. */
  private record State(List<Note> notes, List<Voice> voices, int rounds, int step, int law) {
    private static final Integer STILL = null;

    List<Integer> plain() {
      List<Integer> plain = new ArrayList<>();
      for (Note note : notes) {
        for (int i = 0; i < note.length; i++) {
          plain.add(note.pitch);
        }
      }
      return plain;
    }

    /** What one round of a kind sounds. */
    List<Integer> round(char kind) {
      List<Integer> round = new ArrayList<>();
      List<Integer> plain = plain();
      switch (kind) {
        case 'v': return plain;
        case 'b':
          for (int pitch : plain) {
            round.add(0, pitch);
          }
          return round;
        case 't':
          for (int pitch : plain) {
            round.add(2 * notes.get(0).pitch - pitch);
          }
          return round;
        case 's':
          for (int pitch : plain) {
            round.add(pitch);
            round.add(pitch);
          }
          return round;
        case 'f':
          for (int pitch : plain) {
            round.add(pitch + 4);
          }
          return round;
        default:
          for (int pitch : round('b')) {
            round.add(2 * notes.get(0).pitch - pitch);
          }
          return round;
      }
    }

    /** What a voice sounds from beat 0 on, till it is still for good. */
    List<Integer> song(Voice voice) {
      List<Integer> song = new ArrayList<>();
      List<Integer> round = round(voice.kind);
      if (!round.isEmpty()) {
        for (int i = 0; i < voice.entry; i++) {
          song.add(STILL);
        }
      }
      for (int k = 0; k < rounds; k++) {
        for (int pitch : round) {
          song.add(pitch + voice.high + k * step);
        }
      }
      return song;
    }

    List<List<Integer>> songs() {
      List<List<Integer>> songs = new ArrayList<>();
      for (Voice voice : voices) {
        songs.add(song(voice));
      }
      return songs;
    }

    static Integer at(List<Integer> song, int beat) {
      return beat < song.size() ? song.get(beat) : STILL;
    }

    boolean areIll(List<Integer> one, List<Integer> other, int beat) {
      Integer a = at(one, beat);
      Integer b = at(other, beat);
      return a != STILL && b != STILL && (law & 1 << (Math.abs(a - b) % 7)) == 0;
    }

    /** Ill pairs: beat, lesser, other. */
    List<int[]> ills() {
      List<List<Integer>> songs = songs();
      List<int[]> ills = new ArrayList<>();
      for (int beat = 0; beat < end(); beat++) {
        for (int i = 0; i < songs.size(); i++) {
          for (int j = i + 1; j < songs.size(); j++) {
            if (areIll(songs.get(i), songs.get(j), beat)) {
              ills.add(new int[] {beat, i, j});
            }
          }
        }
      }
      return ills;
    }

    boolean isWell() {
      return ills().isEmpty();
    }

    int end() {
      int end = 0;
      for (List<Integer> song : songs()) {
        end = Math.max(end, song.size());
      }
      return end;
    }

    State withNotes(List<Note> others) {
      return new State(others, voices, rounds, step, law);
    }

    State withVoices(List<Voice> others) {
      return new State(notes, others, rounds, step, law);
    }

    State withPitch(int note, int pitch) {
      List<Note> others = new ArrayList<>(notes);
      others.set(note, new Note(pitch, notes.get(note).length));
      return withNotes(others);
    }

    State withNote(int pitch, int length) {
      List<Note> others = new ArrayList<>(notes);
      others.add(new Note(pitch, length));
      return withNotes(others);
    }

    State withVoice(Voice voice) {
      List<Voice> others = new ArrayList<>(voices);
      others.add(voice);
      return withVoices(others);
    }

    State withVoiceAt(int place, Voice voice) {
      List<Voice> others = new ArrayList<>(voices);
      others.set(place, voice);
      return withVoices(others);
    }
  }

  private static final class Model {
    private State state = new State(List.of(), List.of(), 1, 0, 53);
    private State image = null;
    private final StringBuilder letters = new StringBuilder();
    private final List<Integer> row = new ArrayList<>();
    private final int[] refusals = new int[7];

    private int refuse(int number) {
      refusals[-number]++;
      return number;
    }

    private boolean noNote(int note) {
      return note < 0 || note >= state.notes.size();
    }

    private boolean noVoice(int voice) {
      return voice < 0 || voice >= state.voices.size();
    }

    int letter(int c) {
      if (c < 0) {
        return refuse(-4);
      }
      if (c > 255 || letters.length() == 80) {
        return refuse(-6);
      }
      letters.append((char) c);
      return letters.length();
    }

    private static final String CANON = "(?:n\\d\\d;|v[vbtsfx]\\d\\d?,\\d;|r\\d\\d;|w\\d;)";

    /** Whether a canon can begin so: some end of at most six letters makes it statements. */
    private static boolean canGoOn(String text) {
      String[] ends = {"", ";", "0;", "00;", ",0;", "0,0;", "v0,0;", "n00;"};
      for (String end : ends) {
        if ((text + end).matches(CANON + "+")) {
          return true;
        }
      }
      return false;
    }

    int canon() {
      String text = letters.toString();
      letters.setLength(0);
      if (!text.matches(CANON + "+")) {
        int place = 0;
        while (place < text.length() && canGoOn(text.substring(0, place + 1))) {
          place++;
        }
        return -1000 - place;
      }
      State told = state;
      int statements = 0;
      Matcher each = Pattern.compile(CANON).matcher(text);
      while (each.find()) {
        told = afterStatement(told, each.group());
        if (told == null) {
          return -2000 - each.start();
        }
        statements++;
      }
      state = told;
      return statements;
    }

    private static State afterStatement(State s, String statement) {
      String[] parts = statement.substring(0, statement.length() - 1).split(",");
      int a = statement.charAt(1) - '0';
      int b = statement.charAt(2) - '0';
      switch (statement.charAt(0)) {
        case 'n':
          return b < 1 || b > 3 || s.notes.size() == 12 ? null : s.withNote(a, b);
        case 'v':
          int entry = Integer.parseInt(parts[0].substring(2));
          Voice voice = new Voice(statement.charAt(1), entry, Integer.parseInt(parts[1]));
          return entry > 60 || s.voices.size() == 6 ? null : s.withVoice(voice);
        case 'r':
          return a < 1 || a > 4 || b > 2 ? null : new State(s.notes, s.voices, a, b, s.law);
        default:
          return a > 6 ? null : new State(s.notes, s.voices, s.rounds, s.step, s.law ^ 1 << a);
      }
    }

    int note(int note, int what) {
      if (noNote(note)) {
        return refuse(-1);
      }
      int begins = 0;
      for (Note before : state.notes.subList(0, note)) {
        begins += before.length;
      }
      Note it = state.notes.get(note);
      return what == 0 ? it.pitch : what == 1 ? it.length : what == 2 ? begins : refuse(-2);
    }

    int voice(int voice, int what) {
      if (noVoice(voice)) {
        return refuse(-1);
      }
      Voice it = state.voices.get(voice);
      List<Integer> song = state.song(it);
      switch (what) {
        case 0: return "vbtsfx".indexOf(it.kind);
        case 1: return it.entry;
        case 2: return it.high;
        case 3: return state.round(it.kind).size();
        case 4: return song.isEmpty() ? it.entry : song.size();
        default: return refuse(-2);
      }
    }

    int pitch(int note, int v) {
      int no = noNote(note) ? -1 : v < 0 ? -4 : v > 9 ? -6 : 0;
      if (no != 0) {
        return refuse(no);
      }
      int was = state.notes.get(note).pitch;
      state = state.withPitch(note, v);
      return was;
    }

    int enter(int voice, int v) {
      int no = noVoice(voice) ? -1 : v < 0 ? -4 : v > 60 ? -6 : 0;
      if (no != 0) {
        return refuse(no);
      }
      Voice was = state.voices.get(voice);
      state = state.withVoiceAt(voice, new Voice(was.kind, v, was.high));
      return was.entry;
    }

    int rounds(int v) {
      if (v < 1 || v > 4) {
        return refuse(v < 1 ? -4 : -6);
      }
      int was = state.rounds;
      state = new State(state.notes, state.voices, v, state.step, state.law);
      return was;
    }

    int step(int v) {
      if (v < 0 || v > 2) {
        return refuse(v < 0 ? -4 : -6);
      }
      int was = state.step;
      state = new State(state.notes, state.voices, state.rounds, v, state.law);
      return was;
    }

    int law(int v) {
      if (v < 0 || v > 127) {
        return refuse(v < 0 ? -4 : -6);
      }
      int was = state.law;
      state = new State(state.notes, state.voices, state.rounds, state.step, v);
      return was;
    }

    private int beatFault(int beat) {
      return beat < 0 ? -4 : beat > 400 ? -6 : 0;
    }

    int sound(int voice, int beat) {
      int no = noVoice(voice) ? -1 : beatFault(beat);
      if (no != 0) {
        return 1000000000 - refuse(no);
      }
      Integer sounds = State.at(state.song(state.voices.get(voice)), beat);
      return sounds == null ? 999 : sounds;
    }

    int ill(int beat) {
      if (beatFault(beat) != 0) {
        return refuse(beatFault(beat));
      }
      int many = 0;
      for (int[] one : state.ills()) {
        many += one[0] == beat ? 1 : 0;
      }
      return many;
    }

    int first(int what) {
      if (what < 0 || what > 1) {
        return refuse(-2);
      }
      List<int[]> ills = state.ills();
      if (ills.isEmpty()) {
        return -9;
      }
      int[] it = ills.get(0);
      return what == 0 ? it[0] : 10 * it[1] + it[2];
    }

    int allIll() {
      return state.ills().size();
    }

    int entries(int kind, int high) {
      int no = kind < 0 || kind > 5 ? -2 : high < 0 ? -4 : high > 9 ? -6 : 0;
      if (no != 0) {
        return refuse(no);
      }
      int bits = 0;
      for (int entry = 0; entry <= 30; entry++) {
        State more = state.withVoice(new Voice("vbtsfx".charAt(kind), entry, high));
        int mine = more.voices.size() - 1;
        if (more.ills().stream().noneMatch(ill -> ill[2] == mine)) {
          bits += 1 << entry;
        }
      }
      return bits;
    }

    int added() {
      int bits = 0;
      for (int pitch = 0; pitch < 10; pitch++) {
        bits += state.withNote(pitch, 1).isWell() ? 1 << pitch : 0;
      }
      return bits;
    }

    int silent() {
      int bits = 0;
      for (int i = 0; i < state.voices.size(); i++) {
        List<Voice> others = new ArrayList<>(state.voices);
        others.remove(i);
        bits += state.withVoices(others).isWell() ? 1 << i : 0;
      }
      return bits;
    }

    int changed(int what) {
      if (what < 0 || what > 1) {
        return refuse(-2);
      }
      if (state.isWell()) {
        return what == 0 ? 0 : -9;
      }
      int notes = state.notes.size();
      for (int note = 0; note < notes; note++) {
        for (int pitch = 0; pitch < 10; pitch++) {
          if (state.withPitch(note, pitch).isWell()) {
            return what == 0 ? 1 : 10 * note + pitch;
          }
        }
      }
      return what == 0 && twoMend() ? 2 : -9;
    }

    /** Every two notes with every two pitches; the songs are kept as rows, else it would last too long. */
    private boolean twoMend() {
      List<int[]> ills = state.ills();
      for (int a = 0; a < state.notes.size(); a++) {
        for (int b = a + 1; b < state.notes.size(); b++) {
          for (int both = 0; both < 100; both++) {
            State other = state.withPitch(a, both / 10).withPitch(b, both % 10);
            // The pairs ill as told are looked at first: most are ill still.
            if (stillIll(other, ills.get(0)) || stillIll(other, ills.get(ills.size() - 1))) {
              continue;
            }
            if (other.isWell()) {
              return true;
            }
          }
        }
      }
      return false;
    }

    private static boolean stillIll(State s, int[] ill) {
      return s.areIll(s.song(s.voices.get(ill[1])), s.song(s.voices.get(ill[2])), ill[0]);
    }

    int better() {
      int least = state.ills().size();
      for (int note = 0; note < state.notes.size(); note++) {
        for (int pitch = 0; pitch < 10; pitch++) {
          least = Math.min(least, state.withPitch(note, pitch).ills().size());
        }
      }
      return least;
    }

    int mirror() {
      return state.plain().equals(state.round('b')) ? 1 : 0;
    }

    long agreeing(int n, int e) {
      int no = n < 1 || e < 1 ? -4 : n > 12 || e > 12 ? -6 : 0;
      if (no != 0) {
        return 4000000000000000000L - refuse(no);
      }
      // By the last e pitches, as a number to the base 7, while that is few; else note by note in chains.
      long all = 1;
      for (int r = 0; r < e; r++) {
        long[] ways = {1, 1, 1, 1, 1, 1, 1};
        int long_ = 0;
        for (int i = r; i < n; i += e) {
          long_++;
          if (long_ > 1) {
            long[] next = new long[7];
            for (int pair = 0; pair < 49; pair++) {
              if ((state.law & 1 << Math.abs(pair / 7 - pair % 7)) != 0) {
                next[pair % 7] += ways[pair / 7];
              }
            }
            ways = next;
          }
        }
        all *= long_ == 0 ? 1 : Arrays.stream(ways).sum();
      }
      if (n <= 4 && all != agreeingOneByOne(n, e)) {
        throw new IllegalStateException("the model disagrees with itself");
      }
      return all;
    }

    private long agreeingOneByOne(int n, int e) {
      long all = 0;
      for (int tune = 0; tune < Math.pow(7, n); tune++) {
        String digits = Integer.toString(tune + (int) Math.pow(7, n), 7).substring(1);
        boolean agrees = true;
        for (int i = e; i < n; i++) {
          agrees &= (state.law & 1 << Math.abs(digits.charAt(i) - digits.charAt(i - e))) != 0;
        }
        all += agrees ? 1 : 0;
      }
      return all;
    }

    int range(int voice, int what) {
      int no = noVoice(voice) ? -1 : what < 0 || what > 1 ? -2 : 0;
      if (no != 0) {
        return 1000000000 - refuse(no);
      }
      List<Integer> song = new ArrayList<>(state.song(state.voices.get(voice)));
      song.removeIf(pitch -> pitch == null);
      song.sort(null);
      return song.isEmpty() ? 999 : song.get(what == 0 ? 0 : song.size() - 1);
    }

    int stop(int beat) {
      if (beatFault(beat) != 0) {
        return refuse(beatFault(beat));
      }
      int last = 0;
      for (Voice voice : state.voices) {
        int round = state.round(voice.kind).size();
        for (int k = 0; k < state.rounds && round > 0; k++) {
          // Each round that has begun by then is sung to its end.
          if (voice.entry + k * round <= beat) {
            last = Math.max(last, voice.entry + (k + 1) * round);
          }
        }
      }
      return last;
    }

    int unison() {
      List<List<Integer>> songs = state.songs();
      int many = 0;
      for (int beat = 0; beat < 500; beat++) {
        List<Integer> sounds = new ArrayList<>();
        for (List<Integer> song : songs) {
          if (State.at(song, beat) != null) {
            sounds.add(State.at(song, beat));
          }
        }
        many += sounds.stream().distinct().count() < sounds.size() ? 1 : 0;
      }
      return many;
    }

    int row(int v) {
      if (v < 0) {
        return refuse(-4);
      }
      if (v > 60 || row.size() == 12) {
        return refuse(-6);
      }
      row.add(v);
      return row.size();
    }

    private int heard(int voice, int beat) {
      List<Integer> song = state.song(state.voices.get(voice));
      for (int i = 0; i < row.size(); i++) {
        Integer sounds = State.at(song, beat + i);
        if (row.get(i) != (sounds == null ? 60 : sounds + 10)) {
          return i;
        }
      }
      return -9;
    }

    /** A number that some voice may well sound next, so that rows are true now and then. */
    int likelyNumber(Random draw) {
      if (state.voices.isEmpty() || draw.nextInt(3) == 0) {
        return 60;
      }
      List<Integer> song = state.song(state.voices.get(draw.nextInt(state.voices.size())));
      Integer sounds = State.at(song, row.size() + draw.nextInt(3));
      return sounds == null ? 60 : sounds + 10;
    }

    int who(int beat) {
      if (beatFault(beat) != 0) {
        return refuse(beatFault(beat));
      }
      int bits = 0;
      for (int i = 0; i < state.voices.size(); i++) {
        bits += heard(i, beat) == -9 ? 1 << i : 0;
      }
      return bits;
    }

    int judge(int voice, int beat) {
      int no = noVoice(voice) ? -1 : beatFault(beat);
      if (no != 0) {
        return refuse(no);
      }
      int answer = heard(voice, beat);
      row.clear();
      return answer;
    }

    int seeds(int n, int z) {
      if (n < 1 || n > 20) {
        return refuse(n < 1 ? -4 : -6);
      }
      int well = 0;
      int seed = z;
      for (int i = 0; i < n; i++) {
        State drawn = state;
        for (int note = 0; note < state.notes.size(); note++) {
          seed = (int) (seed * 1664525L + 1013904223L);
          drawn = drawn.withPitch(note, (seed & Integer.MAX_VALUE) / 256 % 10);
        }
        well += drawn.isWell() ? 1 : 0;
      }
      return well;
    }

    int image() {
      image = state;
      return state.notes.size();
    }

    int on() {
      if (image == null) {
        return refuse(-3);
      }
      state = image;
      return state.notes.size();
    }

    int count(int what) {
      if (what >= 11 && what <= 16) {
        return refusals[what - 10];
      }
      switch (what) {
        case 0: return state.notes.size();
        case 1: return state.voices.size();
        case 2: return state.plain().size();
        case 3: return state.end();
        case 4: return state.rounds;
        case 5: return state.step;
        case 6: return state.law;
        case 7: return row.size();
        case 8: return letters.length();
        default: return -9;
      }
    }
  }
}
