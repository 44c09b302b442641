// The boundary cases of Terms I (the text) and of promises 2 to 7.
public final class TextBoundaryTests extends Check {
  private static final String HEAD = head(1, 2, 1, 1, 0);
  private static final String A = stage("a oil", 1, 0, 1, 1, 1, 1, 0, 0);
  private static final String B = stage("b gas", 1, 0, 1, 1, 1, 1, 0, 0);
  private static final String C = stage("c solid", 1, 0, 1, 1, 1, 1, 0, 0);
  private static final int BLANKS = 0x20202020;

  private static StageRatios full(String text) {
    StageRatios x = new StageRatios();
    feedText(x, text + " ".repeat(700 - text.length()));
    return x;
  }

  private static void tape() {
    sentence("I, 2: THE TAPE has 700 bytes; feed() tells how many it has");
    StageRatios x = new StageRatios();
    due("size(0) of an empty one", x.size(0), 0);
    for (int i = 1; i <= 35; i++) {
      due("feed " + i, x.feed(BLANKS, BLANKS, BLANKS, BLANKS, BLANKS), 20 * i);
    }
    due("size(0) of a full one", x.size(0), 700);

    sentence("2: NONE, and none comes, if there would be more than 700");
    due("feed 36", x.feed(0, 0, 0, 0, 0), -1);
    due("size(0)", x.size(0), 700);
    due("feed 37", x.feed(-1, -1, -1, -1, -1), -1);
    due("size(0)", x.size(0), 700);
    x = full(ONE);
    due("feed on a full one", x.feed(-1, -1, -1, -1, -1), -1);
    due("the bytes are as they were", x.rocket(700), 1);
    due("and room again", x.feed(-1, -1, -1, -1, -1), 20);

    x = Check.busy();
    StageRatios untouched = Check.busy();
    while (x.size(0) < 700) {
      x.feed(BLANKS, BLANKS, BLANKS, BLANKS, BLANKS);
    }
    due("feed on a full one", x.feed(0, 0, 0, 0, 0), -1);
    due("trouble()", x.trouble(), untouched.trouble());
    same("the state", state(x).replace("tape 700", "tape 20"), state(untouched));
    due("rocket(700)", x.rocket(700), -1);
    due("the first bytes are as they were", x.where(), 700);

    sentence("I: THE TAPE has 700 bytes: a TOKEN may end with the last of them");
    x = new StageRatios();
    feedText(x, " ".repeat(700 - ONE.length()) + ONE);
    due("rocket(700)", x.rocket(700), 1);
    x = new StageRatios();
    feedText(x, " ".repeat(699) + "#");
    due("rocket(700)", x.rocket(700), -1);
    due("the last byte's place", x.where(), 699);
    x = full("");
    due("rocket(700)", x.rocket(700), -1);
    due("the end's place", x.where(), 700);

    sentence("2: of each number the highest byte first");
    x = new StageRatios();
    x.feed(0x20202020, 0x20202020, 0x20202020, 0x20202020, 0x202020FF);
    x.rocket(20);
    due("the lowest byte of the last number comes last", x.where(), 19);
    x.feed(0xFF202020, BLANKS, BLANKS, BLANKS, BLANKS);
    x.rocket(20);
    due("the highest byte of the first one (a number below 0) comes first", x.where(), 0);
    x.feed(BLANKS, 0x2020FF20, BLANKS, BLANKS, BLANKS);
    x.rocket(20);
    due("the third byte of the second one", x.where(), 6);
    x.feed(0x20FF2020, BLANKS, BLANKS, BLANKS, BLANKS);
    x.rocket(20);
    due("the second byte of the first one", x.where(), 1);
  }

  private static void tokens() {
    sentence("I: blanks, 32, part TOKENS and mean nothing else: none at all");
    sound("rocket payload1mark2by1power1pull0;stage a oil dry1tank0most1engines1thrust1flow1least0out0;fail a1 1", 1);
    sentence("I: blanks, 32, part TOKENS and mean nothing else: many, ahead and behind too");
    sound("   " + ONE.replace(" ", "    ").replace(";", "   ;  ") + "  ", 1);
    sentence("I: blanks part TOKENS: within a WORD, within a WHOLE");
    faulty("roc ket payload 1", 1, 0);
    faulty("rocket pay load 1", 1, 7);
    faulty("rocket payload 1 0 mark 2", 1, 17);
    sentence("I: no other byte is a blank");
    for (int b : new int[] {0, 9, 10, 13, 31, 33, 127, 160, 255}) {
      faulty((char) b + ONE, 1, 0);
      faulty("rocket" + (char) b + "payload", 1, 6);
      faulty(ONE + (char) b, 1, ONE.length());
    }

    sentence("I: WORDS of 1 to 7: the shortest and the longest NAME, and one letter more");
    sound(ONE.replace(" a ", " z "), 1);
    sound(ONE.replace(" a ", " abcdefg ") + fail("abcdefg", 1, 1), 1);
    sound(ONE.replace(" a ", " zzzzzzz "), 1);
    faulty(ONE.replace(" a ", " abcdefgh "), 1, HEAD.length() + 7);
    faulty(ONE + ";fail abcdefgh 1 1", 1, ONE.length() + 6);
    faulty("abcdefgh", 1, 0);
    faulty("x".repeat(700), 1, 0);
    sentence("I: WORDS of small letters: a and z are, the bytes beside them, large ones and those 128 higher aren't");
    sound(ONE.replace(" a ", " az "), 1);
    for (int b : new int[] {'a' - 1, 'z' + 1, 'A', 'Z', 'a' + 128, 'z' + 128}) {
      faulty(ONE.replace(" a ", " " + (char) b + " "), 1, HEAD.length() + 7);
      faulty(ONE.replace(" a ", " a" + (char) b + " "), 1, HEAD.length() + 8);
    }
    sentence("I: letters that stand together are one WORD");
    faulty("rocketpayload 1", 1, 0);
    faulty("rocket payloadx 1", 1, 7);
    faulty(HEAD + ";stagea oil", 1, HEAD.length() + 1);

    sentence("I: WHOLES of 1 to 3 digits, and one more");
    due("001", with(ONE.replace("payload 1", "payload 001")).about(0), 1);
    due("040", with(ONE.replace("payload 1", "payload 040")).about(0), 40);
    due("000", with(ONE.replace("tank 0", "tank 000")).stage(0, 2), 0);
    due("999", with(ONE.replace("thrust 1", "thrust 999")).stage(0, 5), 999);
    faulty("rocket payload 0001", 1, 15);
    faulty("rocket payload 1000", 1, 15);
    faulty("rocket payload " + "0".repeat(100) + "1", 1, 15);
    faulty("rocket payload 4294967297", 1, 15);
    sentence("I: digits: 0 and 9 are, the bytes beside them and those 128 higher aren't");
    due("09", with(ONE.replace("payload 1", "payload 09")).about(0), 9);
    for (int b : new int[] {'0' - 1, '9' + 1, '0' + 128, '9' + 128}) {
      faulty("rocket payload " + (char) b, 1, 15);
      faulty("rocket payload 1" + (char) b, 1, 16);
    }
    sentence("I: no sign ahead of a WHOLE");
    faulty("rocket payload -1", 1, 15);
    faulty("rocket payload +1", 1, 15);

    sentence("I: single ones of ;: two are two TOKENS");
    faulty(HEAD + ";" + A, 1, HEAD.length() + 1);
    faulty(HEAD + " ; " + A, 1, HEAD.length() + 3);
    for (int b : new int[] {';' - 1, ';' + 1, ';' + 128}) {
      faulty(HEAD + (char) b + A.substring(1), 1, HEAD.length());
    }
  }

  private static void lines() {
    sentence("I: LINE {; LINE}: none at all, none behind a ;, none ahead of one, no ; between two");
    faulty("", 1, 0);
    faulty("   ", 1, 3);
    faulty(";" + ONE, 1, 0);
    faulty(ONE + ";", 1, 116);
    faulty(ONE + ";  ", 1, 118);
    faulty(ONE + " stage b", 1, 116);
    faulty(HEAD + A.replace(";", " "), 1, HEAD.length() + 1);

    sentence("I: PAYLOAD, 1 .. 40");
    faulty("rocket payload 0", 4, 15);
    due("the least", with(ONE.replace("payload 1", "payload 1")).about(0), 1);
    due("the greatest", with(ONE.replace("payload 1", "payload 40")).about(0), 40);
    faulty("rocket payload 41", 4, 15);
    faulty("rocket payload 999", 4, 15);
    sentence("I: UPPER, 2 .. 99");
    faulty("rocket payload 1 mark 1", 4, 22);
    faulty("rocket payload 1 mark 0", 4, 22);
    due("the least", with(ONE).about(1), 2);
    due("the greatest", with(ONE.replace("mark 2", "mark 99")).about(1), 99);
    faulty("rocket payload 1 mark 100", 4, 22);
    sentence("I: LOWER, 1 .. 98, less than UPPER");
    faulty("rocket payload 1 mark 2 by 0", 4, 27);
    due("the least", with(ONE.replace("2 by 1", "99 by 1")).about(2), 1);
    due("the greatest", with(ONE.replace("2 by 1", "99 by 98")).about(2), 98);
    faulty("rocket payload 1 mark 99 by 99", 4, 28);
    faulty("rocket payload 1 mark 99 by 100", 4, 28);
    due("one less than UPPER", with(ONE.replace("2 by 1", "50 by 49")).about(2), 49);
    faulty("rocket payload 1 mark 50 by 50", 4, 28);
    faulty("rocket payload 1 mark 50 by 51", 4, 28);
    faulty("rocket payload 1 mark 2 by 2", 4, 27);
    sentence("I: POWER, 1 .. 12");
    faulty("rocket payload 1 mark 2 by 1 power 0", 4, 35);
    due("the least", with(ONE).about(3), 1);
    due("the greatest", with(ONE.replace("power 1", "power 12")).about(3), 12);
    faulty("rocket payload 1 mark 2 by 1 power 13", 4, 35);
    sentence("I: PULL, 0 .. 99");
    due("the least", with(ONE).about(4), 0);
    due("the greatest", with(ONE.replace("pull 0", "pull 99")).about(4), 99);
    faulty("rocket payload 1 mark 2 by 1 power 1 pull 100", 4, 42);
  }

  private static void stageNumbers() {
    String[] words = {"dry", "tank", "most", "engines", "thrust", "flow", "least"};
    int[] low = {1, 0, 1, 1, 1, 1, 0};
    int[] high = {50, 90, 16, 9, 999, 9, 400};
    for (int i = 0; i < words.length; i++) {
      sentence("I: " + words[i] + " " + low[i] + " .. " + high[i]);
      String told = " " + words[i] + " " + (words[i].equals("tank") || words[i].equals("least") ? 0 : 1);
      int place = ONE.indexOf(told) + words[i].length() + 2;
      due("the least", with(ONE.replace(told, " " + words[i] + " " + low[i])).stage(0, i + 1), low[i]);
      due("the greatest", with(ONE.replace(told, " " + words[i] + " " + high[i])).stage(0, i + 1), high[i]);
      if (low[i] > 0) {
        faulty(ONE.replace(told, " " + words[i] + " " + (low[i] - 1)), 4, place);
      }
      faulty(ONE.replace(told, " " + words[i] + " " + (high[i] + 1)), high[i] == 999 ? 1 : 4, place);
    }
    sentence("I: OUT 0 .. ENGINES - 1");
    due("the least", with(ONE.replace("engines 1", "engines 9")).stage(0, 8), 0);
    due("the greatest", with(ONE.replace("engines 1", "engines 9").replace("out 0", "out 8")).stage(0, 8), 8);
    faulty(ONE.replace("engines 1", "engines 9").replace("out 0", "out 9"), 4, 114);
    faulty(ONE.replace("out 0", "out 1"), 4, 114);
    due("of two", with(ONE.replace("engines 1", "engines 2").replace("out 0", "out 1")).stage(0, 8), 1);
    faulty(ONE.replace("engines 1", "engines 2").replace("out 0", "out 2"), 4, 114);
    sentence("I: OUT 0 .. ENGINES - 1: ENGINES of its own STAGE");
    faulty(ONE.replace("engines 1", "engines 9") + B.replace("out 0", "out 1"), 4, 115 + B.length() - 1);

    sentence("I: KIND: solid, oil, or gas");
    due("solid", with(ONE.replace("oil", "solid")).stage(0, 0), 2);
    due("oil", with(ONE).stage(0, 0), 3);
    due("gas", with(ONE.replace("oil", "gas")).stage(0, 0), 4);
    for (String kind : new String[] {"solids", "oi", "gasoil", "dry", "b", "7", ";", "Oil"}) {
      faulty(ONE.replace("oil", kind), 1, HEAD.length() + 9);
    }
    faulty(HEAD + ";stage a", 1, HEAD.length() + 8);
  }

  private static void stagesAndFails() {
    sentence("I: a STAGE, numbered from 0, up to 3");
    sound(HEAD + A, 1);
    sound(HEAD + A + B, 2);
    sound(HEAD + A + B + C, 3);
    StageRatios x = with(HEAD + A + B + C);
    for (int s = 0; s < 3; s++) {
      due("GRADE of " + s, x.stage(s, 0), new int[] {3, 4, 2}[s]);
    }
    sentence("I, 5 MANY: a LINE more of its sort than there is room for, at its first WORD: a fourth STAGE");
    faulty(HEAD + A + B + C + stage("d oil", 1, 0, 1, 1, 1, 1, 0, 0), 5, (HEAD + A + B + C).length() + 1);
    faulty(HEAD + A + B + C + ";stage", 5, (HEAD + A + B + C).length() + 1);
    faulty(HEAD + A + B + C + ";stage a", 5, (HEAD + A + B + C).length() + 1);
    faulty(HEAD + A + B + C + fail("c", 1, 1) + "; stage #", 5, (HEAD + A + B + C + fail("c", 1, 1)).length() + 2);

    sentence("I: fail ... up to 6");
    due("none", with(ONE).about(6), 0);
    String three = HEAD + A + B + C;
    String six = three + fail("a", 1, 1) + fail("b", 1, 1) + fail("c", 1, 1) + fail("a", 2, 1) + fail("b", 2, 1) + fail("c", 2, 1);
    due("six of three", with(six).about(6), 6);
    sentence("I, 5 MANY: a seventh fail");
    faulty(six + fail("a", 3, 1), 5, six.length() + 1);
    faulty(six + ";fail", 5, six.length() + 1);
    faulty(six + ";fail q 0 0", 5, six.length() + 1);
    sentence("I: as many of the other sort don't count");
    sound(HEAD + A + fail("a", 1, 1) + fail("a", 2, 1) + fail("a", 3, 1) + fail("a", 4, 1) + B + fail("a", 5, 1) + fail("b", 99, 9) + C, 3);

    sentence("I: in the TICK of its burn, 1 .. 99");
    faulty(ONE + ";fail a 0 1", 4, 123);
    sound(ONE + ";fail a 1 1", 1);
    sound(ONE + ";fail a 99 1", 1);
    faulty(ONE + ";fail a 100 1", 4, 123);
    sentence("I: so many engines fail, 1 .. 9 (more than it has, too)");
    faulty(ONE + ";fail a 1 0", 4, 125);
    sound(ONE + ";fail a 1 9", 1);
    faulty(ONE + ";fail a 1 10", 4, 125);
    sentence("I, 4: TICKS of one STAGE rise: one more does; as many, one less don't; at it");
    sound(ONE + ";fail a 5 1;fail a 6 1", 1);
    faulty(ONE + ";fail a 5 1;fail a 5 1", 4, 134);
    faulty(ONE + ";fail a 5 1;fail a 4 1", 4, 134);
    sound(ONE + ";fail a 1 1;fail a 98 1;fail a 99 1", 1);
    faulty(ONE + ";fail a 99 1;fail a 99 1", 4, 135);
    sentence("I: TICKS of one STAGE rise: those of another one don't count");
    sound(HEAD + A + B + ";fail a 9 1;fail b 1 1;fail a 10 1;fail b 2 1", 2);
    String between = HEAD + A + B + ";fail a 9 1;fail b 1 1";
    faulty(between + ";fail a 9 1", 4, between.length() + 8);
  }

  private static void names() {
    int n = HEAD.length();
    sentence("I: NAMES are WORDS but rocket, stage, fail");
    for (String word : new String[] {"rocket", "stage", "fail"}) {
      faulty(ONE.replace(" a ", " " + word + " "), 1, n + 7);
      faulty(ONE + ";fail " + word + " 1 1", 1, 121);
    }
    for (String word : new String[] {"solid", "oil", "gas", "payload", "mark", "by", "dry", "engines", "rockets", "stages", "fails", "rocke"}) {
      sound(ONE.replace(" a ", " " + word + " ") + fail(word, 1, 1), 1);
    }
    sentence("I, 3 AGAIN: a NAME told again, at it");
    faulty(HEAD + A + A, 3, 115 + 7);
    faulty(HEAD + A + B + A, 3, 115 + B.length() + 7);
    faulty(HEAD + A + B + B, 3, 115 + B.length() + 7);
    faulty(HEAD + A + ";stage a a", 3, 115 + 7);
    sound(HEAD + A + A.replace(" a ", " aa ") + A.replace(" a ", " b "), 3);
    sound(HEAD + A.replace(" a ", " abcdefg ") + A.replace(" a ", " abcdefh ") + A.replace(" a ", " bbcdefg "), 3);
    sentence("I, 2: a NAME that isn't told; at it");
    faulty(ONE + ";fail b 1 1", 2, 121);
    faulty(ONE + ";fail aa 1 1", 2, 121);
    sentence("I: each told ahead of its use");
    faulty(HEAD + fail("a", 1, 1) + A, 2, n + 6);
    faulty(HEAD + A + fail("b", 1, 1) + B, 2, 121);
    sentence("I, 2: a NAME that an earlier ROCKET told isn't told");
    StageRatios x = with(HEAD + A + B);
    due("rocket", lay(x, HEAD + A + fail("b", 1, 1)), -1);
    due("fault", x.fault(), 2);
    due("and told anew it isn't told again", lay(x, HEAD + B + A), 2);
  }

  private static void faults() {
    int n = HEAD.length();
    sentence("I: FAULTS, the first that is met from the left");
    faulty("rocket payload 0 mark 1000", 4, 15);
    faulty("rocket payload 41 #", 4, 15);
    faulty("stage # ", 6, 0);
    faulty("# stage", 1, 0);
    faulty(HEAD + ";fail b 0 0;", 2, n + 6);
    faulty(HEAD + A + A.replace("dry 1", "dry 0"), 3, 115 + 7);
    faulty(HEAD + A.replace("dry 1", "dry 0") + A, 4, n + 17);
    faulty(HEAD + A + ";fail a 0 99", 4, 123);
    faulty(HEAD + A + B + C + ";rocket;stage", 3, (HEAD + A + B + C).length() + 1);
    sentence("I: of one place the least number");
    faulty(HEAD + ";fail fail 1 1", 1, n + 6);
    faulty(HEAD + A + ";stage stage", 1, 122);
    faulty(HEAD + ";", 1, n + 1);
    faulty("rocket payload 1 mark 2 by 1 power 1 pull", 1, 41);

    sentence("I, 1 FORM: a TOKEN with which no ROCKET goes on: each TOKEN of a LINE in turn");
    String text = ONE + ";fail a 1 1";
    String[] parts = text.replace(";", " ; ").split(" ");
    for (int i = 0, at = 0; i < parts.length; i++) {
      int place = text.indexOf(parts[i], at);
      faulty(text.substring(0, place) + " q# " + text.substring(place), parts[i].equals("a") && i > 20 ? 2 : 1,
          parts[i].equals("a") && i < 20 ? place + 2 : place + 1);
      at = place + parts[i].length();
    }
    sentence("I, 1 FORM: (the end: its place): a text that ends ahead of each TOKEN but where a LINE may end");
    for (int i = 0, at = 0; i < parts.length; i++) {
      int place = text.indexOf(parts[i], at);
      if (parts[i].equals(";")) {
        if (place < n + 1) faulty(text.substring(0, place), 6, place);
        else sound(text.substring(0, place), 1);
      } else {
        faulty(text.substring(0, place), 1, place);
      }
      at = place + parts[i].length();
    }
    sentence("I, 3 AGAIN: a second rocket, at that WORD");
    faulty(HEAD + ";rocket", 3, n + 1);
    faulty(HEAD + ";" + HEAD, 3, n + 1);
    faulty(ONE + "; rocket #", 3, 117);
    sentence("I, 6 LACKS: any LINE ahead of the rocket; at its WORD");
    faulty("stage", 6, 0);
    faulty("fail", 6, 0);
    faulty("  " + A.substring(1) + ";" + HEAD, 6, 2);
    faulty(" fail a 1 1;" + ONE, 6, 1);
    sentence("I, 6 LACKS: at the end: no STAGE");
    faulty(HEAD, 6, n);
    faulty(HEAD + "   ", 6, n + 3);
    sentence("I, 4: a WHOLE out of bounds is met ahead of what follows it");
    faulty("rocket payload 1 mark 1 by 5", 4, 22);
  }

  private static void rocketCall() {
    sentence("3: NONE: 2 (n below 0 or more than THE TAPE has); THE TAPE stays, and the ROCKET");
    for (int n : new int[] {MIN, -1, 21, 700, 701, MAX}) {
      refused("rocket(" + n + ")", Check::busy, x -> x.rocket(n), -1, 2);
    }
    StageRatios x = new StageRatios();
    feedText(x, ONE);
    due("rocket(size + 1)", x.rocket(121), -1);
    due("trouble", x.trouble(), 2);
    due("size(0)", x.size(0), 120);
    due("its bytes too", x.rocket(115), 1);
    x = new StageRatios();
    due("rocket(1) of an empty one", x.rocket(1), -1);
    due("trouble", x.trouble(), 2);
    due("rocket(-1) of an empty one", x.rocket(-1), -1);
    due("trouble", x.trouble(), 2);
    sentence("3: the first n bytes: none is not refused by 2");
    due("rocket(0) of an empty one", x.rocket(0), -1);
    due("trouble", x.trouble(), 4);
    due("where", x.where(), 0);
    feedText(x, ONE);
    due("rocket(0)", x.rocket(0), -1);
    due("trouble", x.trouble(), 4);
    due("size(0)", x.size(0), 0);
    sentence("3: the first n bytes: all of them");
    feedText(x, ONE);
    due("rocket(size)", x.rocket(x.size(0)), 1);
    sentence("3: the first n bytes: those behind don't count, and are gone too");
    feedText(x, ONE + "#");
    due("rocket(115)", x.rocket(115), 1);
    due("size(0)", x.size(0), 0);
    feedText(x, ONE.replace("least 0", "least 40"));
    due("within a WHOLE", x.rocket(ONE.indexOf("least 0") + 7), -1);
    due("fault", x.fault(), 1);
    feedText(x, ONE.replace("payload 1", "payload 12"));
    x.rocket(16);
    due("where", x.where(), 16);
    feedText(x, ONE + ";fail a 99 1");
    due("rocket(115)", x.rocket(115), 1);
    due("fails", x.about(6), 0);
    due("rocket(0) reads nothing of what was there", x.rocket(0), -1);

    sentence("3: 4 (the ROCKET stays): all of it, what can be undone too; THE TAPE is empty");
    x = busy();
    int kept = x.size(1);
    StageRatios untouched = busy();
    untouched.rocket(0);
    due("rocket(16)", x.rocket(16), -1);
    due("trouble", x.trouble(), 4);
    due("size(0)", x.size(0), 0);
    due("size(1)", x.size(1), kept);
    same("the state", state(x), state(untouched));
    for (int i = 0; i < kept; i++) {
      due("undo", x.undo() ? 1 : 0, 1);
    }
    due("mass", x.mass(), 24);
    due("PAYLOAD", x.about(0), 4);
    x = busy();
    due("a text with a fault behind two sound STAGES", lay(x, HEAD + A + B + ";fail a 1 0"), -1);
    due("fault", x.fault(), 1);
    x.rocket(0);
    due("the text", lay(x, HEAD + A + B + ";fail a 1 0"), -1);
    due("fault", x.fault(), 4);
    same("the state", state(x).replace("fault 4", "fault 1"), state(untouched));

    sentence("3: are the ROCKET from now on (nothing to undo)");
    x = busy();
    x.rocket(0);
    due("rocket", lay(x, HEAD + A + B), 2);
    due("size(1)", x.size(1), 0);
    due("undo", x.undo() ? 1 : 0, 0);
    same("the state", state(x), state(with(HEAD + A + B)));
    due("the same text once more", lay(x, HEAD + A + B), 2);
    due("one STAGE behind two", lay(x, ONE), 1);
    same("the state", state(x), state(with(ONE)));
    due("three behind one", lay(x, HEAD + A + B + C), 3);
    same("the state", state(x), state(with(HEAD + A + B + C)));
  }

  private static void lessBehindMore() {
    sentence("3: of a ROCKET ahead with more STAGES nothing is left");
    String heavy = head(40, 99, 98, 12, 99) + stage("x gas", 50, 90, 16, 9, 1, 1, 400, 8) + stage("y gas", 50, 90, 16, 9, 1, 1, 400, 8)
        + stage("z gas", 50, 90, 16, 9, 1, 1, 400, 8) + fail("x", 1, 1) + fail("y", 1, 1) + fail("z", 1, 1) + fail("x", 2, 1) + fail("y", 2, 1) + fail("z", 2, 1);
    for (String text : new String[] {ONE.replace("2 by 1", "3 by 2"), TWO, TWO.replace("least 150", "least 0")}) {
      StageRatios x = new StageRatios();
      for (int i = 0; i < 2; i++) {
        lay(x, heavy);
        x.bounds(2, 5, 16);
        due("weak(2)", weakOf(x, 2), 2);
        due("mass()", x.mass(), 358);
        x.greatest();
        x.flight(5);
        x.fronts();
        x.least(3);
      }
      lay(x, text);
      StageRatios y = with(text);
      due("greatest()", x.greatest(), y.greatest());
      for (int i = 0; i < 4; i++) {
        due("weak(" + i + ")", weakOf(x, i), weakOf(y, i));
      }
      same("the state", state(x), state(y));
      due("the next STAGE", x.stage(x.about(5), 0), -1);
    }
    // of 97 by 66, squared, less by 3.8 of 10 to 9
    StageRatios x = with(heavy);
    x.greatest();
    lay(x, head(5, 97, 66, 2, 0) + stage("a oil", 22, 0, 8, 1, 1, 1, 0, 0) + stage("b solid", 24, 0, 6, 1, 1, 1, 0, 0));
    due("reaches(2)", x.reaches(2), 0);
  }

  private static void faultAndWhere() {
    sentence("4: fault(): 0 without one");
    StageRatios x = new StageRatios();
    due("ahead of any", x.fault(), 0);
    x.rocket(1);
    due("refused by 2 only", x.fault(), 0);
    lay(x, ONE);
    due("a sound one", x.fault(), 0);
    sentence("4: the FAULT of the latest rocket(): each of six");
    String[] texts = {"#", ONE + ";fail b 1 1", ONE + ";rocket", ONE + ";fail a 0 1", HEAD + A + B + C + ";stage", HEAD};
    for (int i = 0; i < 6; i++) {
      lay(x, texts[i]);
      due("fault of " + texts[i], x.fault(), i + 1);
    }
    sentence("4: of the latest rocket() not refused by 2");
    x.rocket(-1);
    due("fault", x.fault(), 6);
    x.mass();
    due("fault", x.fault(), 6);
    lay(x, ONE);
    due("a sound one", x.fault(), 0);
    x.rocket(-1);
    due("fault", x.fault(), 0);

    sentence("5: where(): NONE else: ahead of any call, behind each call not refused by 4");
    x = new StageRatios();
    due("where", x.where(), -1);
    Ask[] calls = {y -> y.rocket(-1), y -> lay(y, ONE), y -> y.mass(), y -> y.about(9), y -> y.payload(0), y -> y.undo() ? 1 : 0,
        y -> y.richer(0, 0), y -> y.greatest()};
    for (int i = 0; i < calls.length; i++) {
      lay(x, "#");
      due("where", x.where(), 0);
      calls[i].of(x);
      due("where behind call " + i, x.where(), -1);
    }
    sentence("5: the latest call that may be refused: the others leave it");
    lay(x, " #");
    x.feed(1, 2, 3, 4, 5);
    x.fault();
    x.size(0);
    x.size(9);
    x.trouble();
    weakOf(x, 0);
    weakOf(x, -1);
    x.where();
    due("where", x.where(), 1);
    sentence("5: its place: the least and the greatest there is");
    x = full("#");
    x.rocket(700);
    due("where", x.where(), 0);
    x = full(ONE + ";");
    x.rocket(700);
    due("where", x.where(), 700);
  }

  private static void facts() {
    sentence("6: about(what): 0 .. 6; NONE: 1 (what, too)");
    int[] about = {3, 3, 2, 1, 9, 2, 2};
    for (int i = 0; i < 7; i++) {
      int what = i;
      only("about(" + i + ")", Check::busy, x -> x.about(what), about[i]);
    }
    for (int what : new int[] {MIN, -1, 7, MAX}) {
      refused("about(" + what + ")", Check::busy, x -> x.about(what), -1, 1);
    }
    refused("about(0) without a ROCKET", StageRatios::new, x -> x.about(0), -1, 1);
    refused("about(6) without a ROCKET", StageRatios::new, x -> x.about(6), -1, 1);
    sentence("6: STAGES, fails told: the least and the most");
    StageRatios x = with(ONE);
    due("about(5)", x.about(5), 1);
    due("about(6)", x.about(6), 0);
    x = with(HEAD + A + B + C + fail("a", 1, 1) + fail("a", 2, 1) + fail("a", 3, 1) + fail("b", 1, 1) + fail("b", 2, 1) + fail("b", 3, 1));
    due("about(5)", x.about(5), 3);
    due("about(6)", x.about(6), 6);

    sentence("7: stage(s, what): a STAGE from 0 on; NONE: 1");
    only("stage(0, 0)", Check::busy, y -> y.stage(0, 0), 2);
    only("stage(1, 0)", Check::busy, y -> y.stage(1, 0), 4);
    for (int s : new int[] {MIN, -1, 2, 3, MAX}) {
      refused("stage(" + s + ", 0)", Check::busy, y -> y.stage(s, 0), -1, 1);
    }
    due("the third of three", x.stage(2, 0), 2);
    due("the fourth of three", x.stage(3, 0), -1);
    due("the second of one", with(ONE).stage(1, 0), -1);
    refused("stage(0, 0) without a ROCKET", StageRatios::new, y -> y.stage(0, 0), -1, 1);
    sentence("7: stage(s, what): 0 .. 9; NONE: 1");
    only("stage(1, 9)", Check::busy, y -> y.stage(1, 9), 5);
    for (int what : new int[] {MIN, -1, 10, MAX}) {
      refused("stage(0, " + what + ")", Check::busy, y -> y.stage(0, what), -1, 1);
    }
    sentence("7: 9 its SHELL with so much FUEL as it has: none, all");
    due("with none", loaded(TWO, 0, 0).stage(1, 9), 4);
    due("with all", with(TWO).stage(1, 9), 5);
  }

  public static void main(String[] args) {
    tape();
    tokens();
    lines();
    stageNumbers();
    stagesAndFails();
    names();
    faults();
    rocketCall();
    lessBehindMore();
    faultAndWhere();
    facts();
    end();
  }
}
