/** The boundary cases of the TAPE, of RULES and FAULTS: part 4 of "Terms", promises 22 to 24. */
public final class RulesBoundaryTests {
    private static final int NONE = FrontierDesk.NONE;
    private static final int LEAST = Integer.MIN_VALUE;
    private static final int MOST = Integer.MAX_VALUE;

    private static final String[] KEYS = {"word", "like", "minutes", "look", "order", "twice", "do", "pass", "send",
        "to", "wait", "stop", "any"};

    private RulesBoundaryTests() {
    }

    public static void main(String[] args) {
        linesEndWithSemicolons();
        shapesOfLines();
        shapesOfActs();
        blanks();
        wordsOfLetters();
        keysAreNoWords();
        numbersOfDigits();
        signs();
        postsOfOrders();
        minutesLookWait();
        mostWords();
        mostSigns();
        mostLikes();
        mostOrders();
        mostActs();
        minutesAndLookOnce();
        noTokens();
        tokensThatCantStand();
        lengthIfMoreMustCome();
        firstAlongTheText();
        leastOfOnePlace();
        beyondWhatIsSaid();
        oneTooMany();
        wordToldAlready();
        rowToldAlready();
        wordsNotTold();
        likeByRows();
        promise22Bytes();
        promise22Full();
        promise23Empty();
        promise23TapeIsEmptyThen();
        promise23Fault();
        promise23Refused();
        promise24Faults();
        Due.end();
    }

    private static String times(int n, String text) {
        return text.repeat(n);
    }

    /** So many WORDS with different rows, named a, b, .. */
    private static String words(int n) {
        StringBuilder text = new StringBuilder();
        for (int i = 0; i < n; i++) {
            text.append("word ").append((char) ('a' + i)).append(' ').append(1 + i / 9).append(' ').append(1 + i % 9).append(';');
        }
        return text.toString();
    }

    private static void counts(String text, int words, int orders, int minutes, int look) {
        FrontierDesk d = new FrontierDesk();
        Due.is("rules \"" + text + "\"", Due.rules(d, text), words);
        Due.is("WORDS", d.count(4), words);
        Due.is("orders", d.count(5), orders);
        Due.is("minutes", d.count(6), minutes);
        Due.is("look", d.count(7), look);
    }

    // ---- Terms

    private static void linesEndWithSemicolons() {
        Due.sentence("RULES, a TEXT: { LINE ';' }.");
        counts("", 0, 0, 2, 1);
        counts(" ", 0, 0, 2, 1);
        counts("word a 1;", 1, 0, 2, 1);
        counts("word a 1;word b 2;", 2, 0, 2, 1);
        Due.fault(";", 1, 0);
        Due.fault("word a 1;;", 1, 9);
        Due.fault("word a 1", 1, 8);
        Due.fault("word a 1 word b 2;", 1, 9);
        Due.fault("word a 1;word b 2", 1, 17);
        Due.fault("minutes 1 look 1;", 1, 10);
        Due.fault("order any a do pass order any a do pass;", 1, 20);
    }

    private static void shapesOfLines() {
        Due.sentence("LINE: word W S { S } | like S S | minutes N | look N | order P W [ twice ] do ACT { , ACT }.");
        counts("word a 1 2 3 4 5;like 1 2;minutes 3;look 4;order any a twice do pass,stop;order 0 a do pass;", 1, 2, 3, 4);
        Due.fault("word;", 1, 4);
        Due.fault("word a;", 1, 6);
        Due.fault("word 1;", 1, 5);
        Due.fault("word a b 1;", 1, 7);
        Due.fault("like;", 1, 4);
        Due.fault("like 1;", 1, 6);
        Due.fault("like a 1;", 1, 5);
        Due.fault("like 1 2 3;", 1, 9);
        Due.fault("minutes;", 1, 7);
        Due.fault("minutes 1 1;", 1, 10);
        Due.fault("look;", 1, 4);
        Due.fault("look 1 1;", 1, 7);
        Due.fault("order;", 1, 5);
        Due.fault("order any;", 1, 9);
        Due.fault("order any a;", 1, 11);
        Due.fault("order any a pass;", 1, 12);
        Due.fault("order any a twice;", 1, 17);
        Due.fault("order any a twice pass;", 1, 18);
        Due.fault("order any a twice twice do pass;", 1, 18);
        Due.fault("order any twice do pass;", 1, 10);
        Due.fault("order any a do;", 1, 14);
        Due.fault("order any a do twice;", 1, 15);
        Due.fault("order a a do pass;", 1, 6);
        Due.fault("order any a do pass pass;", 1, 20);
        Due.fault("order any a do pass,;", 1, 20);
        Due.fault("order any a do ,pass;", 1, 15);
        Due.fault("order any a do pass,,pass;", 1, 20);
    }

    private static void shapesOfActs() {
        Due.sentence("ACT: pass | send W [ to P ] | wait N | stop.");
        counts("word a 1;order any a do pass,send a,send a to 0,wait 1;order any a do stop;", 1, 2, 2, 1);
        Due.fault("word a 1;order any a do pass a;", 1, 29);
        Due.fault("word a 1;order any a do send;", 1, 28);
        Due.fault("word a 1;order any a do send 1;", 1, 29);
        Due.fault("word a 1;order any a do send a 1;", 1, 31);
        Due.fault("word a 1;order any a do send a to;", 1, 33);
        Due.fault("word a 1;order any a do send a to a;", 1, 34);
        Due.fault("word a 1;order any a do send a to 1 2;", 1, 36);
        Due.fault("word a 1;order any a do wait;", 1, 28);
        Due.fault("word a 1;order any a do wait a;", 1, 29);
        Due.fault("word a 1;order any a do wait 1 1;", 1, 31);
        Due.fault("word a 1;order any a do stop 1;", 1, 29);
        Due.fault("word a 1;order any a do do;", 1, 24);
        Due.fault("word a 1;order any a do 1;", 1, 24);
    }

    private static void blanks() {
        Due.sentence("Blanks 10, 32.");
        counts("\n word \n a\n1 \n;  \n\n", 1, 0, 2, 1);
        counts("word a 1;order any a do pass\n,\nsend\na\nto\n1 ; ", 1, 1, 2, 1);
        Due.clean("word a1 2;", 1);
        Due.clean("word a 1;order 1a do pass,wait 1,stop;", 1);
        for (int sign = 0; sign < 256; sign++) {
            boolean known = sign == 10 || sign == 32;
            String text = "word a 1;" + (char) sign;
            if (known) {
                Due.clean(text, 1);
            } else {
                Due.fault(text, 1, 9);
            }
        }
    }

    private static void wordsOfLetters() {
        Due.sentence("Words are small letters in a row; W: one of 1 .. 8 letters");
        for (char letter = 'a'; letter <= 'z'; letter++) {
            Due.clean("word " + letter + " 1;order any " + letter + " do send " + letter + ";", 1);
            Due.clean("word " + times(8, "" + letter) + " 1;order 1 " + times(8, "" + letter) + " do pass;", 1);
            Due.fault("word " + times(9, "" + letter) + " 1;", 1, 5);
        }
        Due.fault("word abcdefghi 1;", 1, 5);
        Due.fault("word " + times(17, "a") + " 1;", 1, 5);
        Due.fault("word " + times(500, "a") + " 1;", 1, 5);
        Due.fault("order any abcdefghi do pass;", 1, 10);
        Due.fault("word a 1;order any a do send abcdefghi;", 1, 29);
        Due.fault("word A 1;", 1, 5);
        Due.fault("word aA 1;", 1, 6);
        Due.fault("word ` 1;", 1, 5);
        Due.fault("word { 1;", 1, 5);
        Due.fault("Word a 1;", 1, 0);
        Due.clean("word a 1;word aa 2;word aaaaaaaa 3;word aaaaaaab 4;word baaaaaaa 5;", 5);
        Due.clean("word zzzzzzzz 1;word zzzzzzzy 2;word z 3;", 3);
        // Of one letter, no two of different length are the same, nor with another letter in front.
        for (char letter = 'a'; letter <= 'z'; letter++) {
            StringBuilder text = new StringBuilder();
            for (int n = 1; n <= 8; n++) {
                text.append("word ").append(times(n, "" + letter)).append(' ').append(n).append(';');
            }
            Due.clean(text.toString(), 8);
            String other = letter == 'a' ? "z" : "a";
            Due.clean("word " + letter + " 1;word " + other + letter + " 2;word " + letter + other + " 3;", 3);
        }
    }

    private static void keysAreNoWords() {
        Due.sentence("none of word like minutes look order twice do pass send to wait stop any");
        for (String key : KEYS) {
            Due.fault("word " + key + " 1;", 1, 5);
            Due.fault("order any " + key + " do pass;", 1, 10);
            Due.fault("word a 1;order any a do send " + key + ";", 1, 29);
            Due.clean("word " + key + "x 1;order any " + key + "x do send " + key + "x;", 1);
            Due.clean("word x" + key.substring(1) + " 1;", 1);
        }
        Due.clean("word wor 1;word lik 2;word an 3;word t 4;word d 5;word sto 6;word twic 7;", 7);
    }

    private static void numbersOfDigits() {
        Due.sentence("Numbers: digits.");
        Due.clean("word a 1 9;look 09;minutes 0000000009;", 1);
        Due.clean("word a " + times(900, "0") + "1;", 1);
        Due.fault("word a " + times(900, "0") + ";", 2, 7);
        Due.fault("word a " + times(900, "9") + ";", 2, 7);
        Due.fault("word a -1;", 1, 7);
        Due.fault("word a +1;", 1, 7);
        Due.fault("word a 1.5;", 1, 8);
        // These would be 1 if they wrapped around.
        for (String wrap : new String[] {"257", "65537", "4294967297", "18446744073709551617",
            "340282366920938463463374607431768211457"}) {
            Due.fault("word a " + wrap + ";", 2, 7);
            Due.fault("minutes " + wrap + ";", 2, 8);
            Due.fault("look " + wrap + ";", 2, 5);
            Due.fault("like 1 " + wrap + ";", 2, 7);
            Due.fault("order " + wrap + " a do pass;", 2, 6);
            Due.fault("order any a do wait " + wrap + ";", 2, 20);
            Due.fault("order any a do send a to " + wrap + ";", 2, 25);
        }
        Due.fault("look 2147483648;", 2, 5);
        Due.fault("look 4294967296;", 2, 5);
    }

    private static void signs() {
        Due.sentence("S 1 .. 9");
        for (int s = 1; s <= 9; s++) {
            Due.clean("word a " + s + ";like " + s + " 1;like 1 " + s + ";", 1);
            Due.clean("word a 1 2 3 4 " + s + ";", 1);
        }
        for (String s : new String[] {"0", "10", "11", "99", "100"}) {
            Due.fault("word a " + s + ";", 2, 7);
            Due.fault("word a 1 " + s + ";", 2, 9);
            Due.fault("word a 1 2 3 4 " + s + ";", 2, 15);
            Due.fault("like " + s + " 1;", 2, 5);
            Due.fault("like 1 " + s + ";", 2, 7);
        }
    }

    private static void postsOfOrders() {
        Due.sentence("P 0 .. 11, or any (of order alone)");
        for (int p = 0; p <= 11; p++) {
            Due.clean("word a 1;order " + p + " a do send a to " + p + ";", 1);
        }
        Due.clean("word a 1;order any a do pass;", 1);
        for (String p : new String[] {"12", "13", "99", "100", "111"}) {
            Due.fault("word a 1;order " + p + " a do pass;", 2, 15);
            Due.fault("word a 1;order 1 a do send a to " + p + ";", 2, 32);
        }
        Due.fault("word a 1;order 1 a do send a to any;", 1, 32);
        Due.fault("word any 1;", 1, 5);
        Due.fault("minutes any;", 1, 8);
        Due.fault("word a 1;order 1 a do wait any;", 1, 27);
    }

    private static void minutesLookWait() {
        Due.sentence("N of minutes 1 .. 9, of look 0 .. 30, of wait 1 .. 99");
        for (int n = 0; n <= 101; n++) {
            if (n >= 1 && n <= 9) {
                counts("minutes " + n + ";", 0, 0, n, 1);
            } else {
                Due.fault("minutes " + n + ";", 2, 8);
            }
            if (n <= 30) {
                counts("look " + n + ";", 0, 0, 2, n);
            } else {
                Due.fault("look " + n + ";", 2, 5);
            }
            if (n >= 1 && n <= 99) {
                counts("word a 1;order 1 a do wait " + n + ";", 1, 1, 2, 1);
            } else {
                Due.fault("word a 1;order 1 a do wait " + n + ";", 2, 27);
            }
        }
    }

    private static void mostWords() {
        Due.sentence("At most 10 WORDS");
        for (int n = 0; n <= 10; n++) {
            counts(words(n), n, 0, 2, 1);
        }
        Due.fault(words(11), 2, words(10).length());
        Due.fault(words(10) + "word", 2, words(10).length());
        Due.fault(words(10) + " word a 1 1;", 2, words(10).length() + 1);
        counts(words(10) + "like 1 2;minutes 1;look 1;order any j do send a;", 10, 1, 1, 1);
    }

    private static void mostSigns() {
        Due.sentence("5 S each");
        Due.clean("word a 1 2 3 4 5;", 1);
        Due.fault("word a 1 2 3 4 5 6;", 2, 17);
        Due.fault("word a 1 2 3 4 5 6 7;", 2, 17);
        Due.fault("word a 1 2 3 4 5 6", 2, 17);
        Due.clean("word a 1 2 3 4 5;word b 5 4 3 2 1;word c 1 1 1 1 1;", 3);
        Due.fault("word a 1 2 3 4 5;word b 5 4 3 2 1 1;", 2, 34);
    }

    private static void mostLikes() {
        Due.sentence("8 like");
        Due.clean(times(8, "like 1 1;"), 0);
        Due.fault(times(9, "like 1 1;"), 2, 72);
        Due.fault(times(8, "like 1 1;") + "like", 2, 72);
        Due.clean(times(8, "like 1 1;") + "minutes 1;", 0);
        FrontierDesk d = new FrontierDesk();
        for (int i = 0; i < 4; i++) {
            Due.is("eight again", Due.rules(d, times(8, "like 1 1;")), 0);
            Due.is("nine", Due.rules(d, times(9, "like 1 1;")), NONE);
        }
    }

    private static void mostOrders() {
        Due.sentence("16 orders");
        String order = "order any a do pass;";
        for (int n = 0; n <= 16; n++) {
            counts("word a 1;" + times(n, order), 1, n, 2, 1);
        }
        Due.fault("word a 1;" + times(17, order), 2, 9 + 16 * 20);
        Due.fault(times(16, order) + "order", 2, 16 * 20);
        counts(times(16, order) + "word a 1;", 1, 16, 2, 1);
    }

    private static void mostActs() {
        Due.sentence("4 ACTS each");
        for (String act : new String[] {"pass", "stop", "wait 9", "send a", "send a to 9"}) {
            String four = "word a 1;order 1 a do " + act + "," + act + "," + act + "," + act;
            counts(four + ";", 1, 1, 2, 1);
            Due.fault(four + "," + act + ";", 2, four.length() + 1);
            Due.fault(four + "," + act.substring(0, 4), 2, four.length() + 1);
            Due.fault(four + ", a;", 1, four.length() + 2);
            Due.fault(four + ",", 1, four.length() + 1);
        }
        // Each order has four of its own; 16 times 4 is all there can be.
        counts("word a 1;" + times(16, "order 1 a do pass,pass,pass,stop;"), 1, 16, 2, 1);
        FrontierDesk d = new FrontierDesk();
        for (int i = 0; i < 4; i++) {
            Due.is("four again", Due.rules(d, "word a 1;order 1 a do pass,pass,pass,stop;order 1 a do wait 1;"), 1);
            Due.is("five", Due.rules(d, "word a 1;order 1 a do pass,pass,pass,stop,pass;"), NONE);
        }
    }

    private static void minutesAndLookOnce() {
        Due.sentence("minutes and look once each (2 and 1 without)");
        counts("", 0, 0, 2, 1);
        counts("minutes 2;look 1;", 0, 0, 2, 1);
        counts("look 0;", 0, 0, 2, 0);
        counts("minutes 9;", 0, 0, 9, 1);
        counts("look 30;minutes 1;", 0, 0, 1, 30);
        Due.fault("minutes 9;minutes 9;", 3, 10);
        Due.fault("look 9;look 9;", 3, 7);
        Due.fault("minutes 2;look 1; minutes 2;", 3, 18);
        Due.fault("minutes 2;look 1; look 1;", 3, 18);
        FrontierDesk d = new FrontierDesk();
        for (int i = 0; i < 3; i++) {
            Due.rules(d, "minutes 9;look 30;");
            Due.is("minutes", d.count(6), 9);
            Due.rules(d, "word a 1;");
            Due.is("without again: minutes", d.count(6), 2);
            Due.is("without again: look", d.count(7), 1);
            Due.rules(d, "word a 1;");
            Due.is("without once more: minutes", d.count(6), 2);
            Due.is("without once more: look", d.count(7), 1);
        }
    }

    private static void noTokens() {
        Due.sentence("1 a TOKEN that is none (a word of more than 8 letters, too)");
        for (int sign = 0; sign < 256; sign++) {
            boolean letter = sign >= 'a' && sign <= 'z';
            boolean digit = sign >= '0' && sign <= '9';
            if (!letter && !digit && sign != 10 && sign != 32 && sign != ';' && sign != ',') {
                Due.fault("" + (char) sign, 1, 0);
                Due.fault("word" + (char) sign + "a 1;", 1, 4);
                Due.fault("word a 1" + (char) sign + "2;", 1, 8);
                Due.fault("order any a do pass" + (char) sign + "pass;", 1, 19);
                Due.fault("look 1" + (char) sign, 1, 6);
            }
        }
        Due.fault("order any a do pass abcdefghi pass;", 1, 20);
        Due.fault("look 1 abcdefghi", 1, 7);
        Due.fault("minutess 1;", 1, 0);
        Due.fault("orderorder any a do pass;", 1, 0);
        Due.fault("word a 1;abcdefghi", 1, 9);
        Due.fault("word a 1 abcdefghi;", 1, 9);
    }

    private static void tokensThatCantStand() {
        Due.sentence("or can't stand there (the length, if more must come)");
        for (String key : KEYS) {
            boolean begins = "word like minutes look order".contains(key) && !key.equals("do");
            Due.fault(key, 1, begins ? key.length() : 0);
        }
        Due.fault("a", 1, 0);
        Due.fault("1", 1, 0);
        Due.fault(",", 1, 0);
        Due.fault("word a 1,2;", 1, 8);
        Due.fault("word a 1;, ", 1, 9);
    }

    /** Each cut of a text that ends within a LINE, between two TOKENS. */
    private static void lengthIfMoreMustCome() {
        Due.sentence("(the length, if more must come)");
        String[] tokens = {"word", "a", "1", "2", ";", "like", "1", "2", ";", "minutes", "3", ";", "look", "4", ";",
            "order", "any", "a", "twice", "do", "wait", "5", ",", "send", "a", "to", "6", ",", "send", "a", ",", "stop",
            ";", "order", "7", "a", "do", "pass", ",", "stop", ";"};
        StringBuilder text = new StringBuilder();
        for (String token : tokens) {
            text.append(token);
            boolean ends = token.equals(";");
            for (String blank : new String[] {"", " ", "\n \n"}) {
                String cut = text + blank;
                if (ends) {
                    Due.clean(cut, 1);
                } else {
                    Due.fault(cut, 1, cut.length());
                }
            }
            text.append(' ');
        }
        FrontierDesk d = new FrontierDesk();
        Due.put(d, "word a 1 2;");
        Due.is("cut by n, not by the TAPE", d.rules(8), NONE);
        Due.is("FAULT", d.fault(0), 1);
        Due.is("the length is n", d.fault(1), 8);
        // Cut within a TOKEN: what is behind n doesn't count, nor what was on the TAPE before.
        cut("word a 12;", 8, 1, 8);
        cut("word ab 1;", 6, 1, 6);
        cut("word a 1;minutes 25;", 18, 1, 18);
        cut("word a 1;minutes 25;", 17, 1, 17);
        cut("words a 1;", 4, 1, 4);
        cut("wor", 2, 1, 0);
        cut("look 31;", 6, 1, 6);
        cut("order any a do passed;", 19, 1, 19);
        Due.fault("word a 1;" + times(991, "a"), 1, 9);
        Due.fault("word a 1;" + times(983, " ") + "like 1 1", 1, 1000);
        Due.fault("word a 1;" + times(987, " ") + "like", 1, 1000);
    }

    private static void cut(String text, int n, int sort, int place) {
        FrontierDesk d = new FrontierDesk();
        Due.put(d, text + times(200, "a"));
        d.rules(0);
        Due.put(d, text);
        Due.is("rules(" + n + ") of " + text, d.rules(n), NONE);
        Due.is("FAULT", d.fault(0), sort);
        Due.is("its place", d.fault(1), place);
    }

    private static void firstAlongTheText() {
        Due.sentence("FAULTS, the first along the text (of one place the least), with its place");
        Due.fault("word a 0;word a 1;?", 2, 7);
        Due.fault("word a 1;word a 0;?", 3, 14);
        Due.fault("? word a 0;", 1, 0);
        Due.fault("order any b do wait 0;", 2, 20);
        Due.fault("order any b do wait 1;minutes 1;minutes 2;", 3, 32);
        Due.fault("word a 1;word b 1;word c 0;", 3, 16);
        Due.fault("word a 1;word b 1 0;", 2, 18);
        Due.fault("like 0 0;", 2, 5);
        Due.fault("order 12 word do pass;", 2, 6);
    }

    private static void leastOfOnePlace() {
        Due.sentence("(of one place the least)");
        Due.fault("like 1 2 99;", 1, 9);
        Due.fault("word 99 1;", 1, 5);
        Due.fault("minutes 1 99;", 1, 10);
        Due.fault("word a 1 2 3 4 5 a;", 1, 17);
        Due.fault("word a 1 2 3 4 5 0;", 2, 17);
        Due.fault(words(10) + "wordy", 1, words(10).length());
        Due.fault("word a 1;order 1 a do pass,pass,pass,pass,do;", 1, 42);
    }

    private static void beyondWhatIsSaid() {
        Due.sentence("2 a number beyond what is said (at it)");
        Due.fault("  word  a  10 ;", 2, 11);
        Due.fault("word a 1 0", 2, 9);
        Due.fault("like  0 1;", 2, 6);
        Due.fault("like 1  10", 2, 8);
        Due.fault("minutes  0", 2, 9);
        Due.fault("minutes 10", 2, 8);
        Due.fault("look  31", 2, 6);
        Due.fault("order  12", 2, 7);
        Due.fault("order 1 a do wait  0", 2, 19);
        Due.fault("order 1 a do wait 100", 2, 18);
        Due.fault("order 1 a do send a to  12", 2, 24);
    }

    private static void oneTooMany() {
        Due.sentence("an eleventh word, a ninth like, a 17th order (at that word); a sixth S, a fifth ACT (at it)");
        String likes = times(8, "like 1 1;");
        String orders = times(16, "order 1 a do stop;");
        Due.fault(words(10) + " word k 9 9;", 2, words(10).length() + 1);
        Due.fault(words(10) + " word to 9 9;", 2, words(10).length() + 1);
        Due.fault(likes + "  like 0 0;", 2, likes.length() + 2);
        Due.fault(orders + "\norder 99 do;", 2, orders.length() + 1);
        Due.fault("word a 1 2 3 4 5  6 7 8", 2, 18);
        Due.fault("word a 1;order 1 a do stop,stop,stop,stop, wait 0;", 2, 43);
    }

    private static void wordToldAlready() {
        Due.sentence("3 a W told already by word (at it); minutes, look told already (at it)");
        Due.fault("word a 1;word a 2;", 3, 14);
        Due.fault("word a 1;word a", 3, 14);
        Due.fault("word a 1;word a 0;", 3, 14);
        Due.fault("word abcdefgh 1;word abcdefg 2;word abcdefgh 3;", 3, 36);
        String nine = words(9);
        Due.fault(nine + "word a 9 9;", 3, nine.length() + 5);
        Due.fault(nine + "word i 9 9;", 3, nine.length() + 5);
        Due.clean("order any a do send a;word a 1;", 1);
        Due.fault("minutes 1;minutes 0;", 3, 10);
        Due.fault("minutes 1;minutes", 3, 10);
        Due.fault("look 0;look 31;", 3, 7);
        Due.fault("look 0;  look", 3, 9);
        FrontierDesk d = new FrontierDesk();
        Due.is("rules", Due.rules(d, "word a 1;minutes 1;look 1;"), 1);
        Due.is("told by other RULES doesn't count", Due.rules(d, "word a 1;minutes 1;look 1;"), 1);
        Due.is("with a FAULT", Due.rules(d, "word a 1;minutes 1;look 1;?"), NONE);
        Due.is("nor do those with a FAULT", Due.rules(d, "word a 1;minutes 1;look 1;"), 1);
    }

    private static void rowToldAlready() {
        Due.sentence("a word with just the row of S of another one (at its first S, as soon as the row has ended)");
        Due.fault("word a 1;word b  1;", 3, 17);
        Due.fault("word a 1 2 3 4 5;word b 1 2 3 4 5;", 3, 24);
        Due.fault("word a 1;word b 1", 3, 16);
        Due.fault("word a 1;word b 1 ?", 3, 16);
        Due.fault("word a 1;word b 1 word", 3, 16);
        Due.fault("word a 1;word b 01;", 3, 16);
        Due.fault("word a 1 2;word b 1 2,", 3, 18);
        Due.clean("word a 1;word b 1 1;", 2);
        Due.clean("word a 1 1;word b 1;", 2);
        Due.clean("word a 1 2;word b 2 1;", 2);
        Due.clean("word a 1 2 3 4 5;word b 1 2 3 4;word c 1 2 3 4 6;word d 2 2 3 4 5;", 4);
        Due.fault("word a 1;word b 1 0;", 2, 18);
        Due.fault("word a 1 2 3 4 5;word b 1 2 3 4 5 6;", 2, 34);
        String nine = words(9);
        Due.fault(nine + "word j 1 1;", 3, nine.length() + 7);
        Due.fault(nine + "word j 1 9;", 3, nine.length() + 7);
    }

    private static void wordsNotTold() {
        Due.sentence("Then, if there is none: 4 a W in an order that no word tells (the first one, at it).");
        Due.fault("order any a do pass;", 4, 10);
        Due.fault("word b 1;order any  a do pass;", 4, 20);
        Due.fault("word a 1;order any a do send b;", 4, 29);
        Due.fault("word a 1;order any a do send a,send  b;", 4, 37);
        Due.fault("order any a do send b;", 4, 10);
        Due.fault("order any a do send b;word a 1;", 4, 20);
        Due.fault("word a 1;" + times(15, "order any a do pass;") + "order any a do pass,pass,pass,send b;", 4, 9 + 300 + 35);
        Due.fault("word a 1;" + times(15, "order any a do pass;") + "order any b do pass;", 4, 9 + 300 + 10);
        Due.fault("word aa 1;order any a do pass;", 4, 20);
        Due.fault("word a 1;order any aa do pass;", 4, 19);
        Due.clean("order any a do send b;word b 2;word a 1;", 2);
        Due.fault("order any a do pass;word b 0;", 2, 27);
        Due.fault("order any a do pass;word b 1;word b 2;", 3, 34);
        Due.fault("order any a do pass", 1, 19);
    }

    private static void likeByRows() {
        Due.sentence("S are LIKE if like tells so, or by rows of such; READ DIMLY each S is the least one LIKE it "
                + "(itself, too).");
        // Eight like in a row over all nine S, in an order that doesn't help: 9 is read as 1.
        reads("like 9 8;like 7 6;like 5 4;like 3 2;like 8 7;like 6 5;like 4 3;like 2 1;", "9", "1");
        reads("like 1 2;like 2 3;like 3 4;like 4 5;like 5 6;like 6 7;like 7 8;like 8 9;", "9 5 2 1 9", "1 1 1 1 1");
        reads("like 9 8;", "9", "8");
        reads("like 8 9;", "9", "8");
        reads("like 1 9;like 2 8;", "9 8 1 2 5", "1 2 1 2 5");
        reads("like 3 3;", "3", "3");
        reads("", "3 1", "3 1");
        reads("like 1 2;like 4 5;like 5 2;", "4 3 5", "1 3 1");
    }

    /** The row that is sent over a LINK of LEVEL 1 is read as the other one. */
    private static void reads(String likes, String sent, String read) {
        FrontierDesk d = new FrontierDesk();
        d.land(16, 4);
        d.post(0, 0, 1, 1, true, 0);
        d.post(1, 0, 1, 1, true, 0);
        d.haze(0, 0, 0, 1);
        String other = sent.equals(read) ? "" : "word b " + read + ";";
        int word = sent.equals(read) ? 0 : 1;
        Due.is("rules", Due.rules(d, "word a " + sent + ";" + other + likes + "order any a do pass;"), 1 + word);
        Due.is("send", d.send(0, 0, 0, 0, 9), 2);
        Due.is(sent + " is read as " + read, d.heard(1, word, 2), 0);
        Due.is("misread", d.sent(2), word);
        Due.is("not HEARD as sent", d.heard(1, 1 - word, 0), NONE);
    }

    // ---- Promises

    private static void promise22Bytes() {
        Due.sentence("Twenty bytes come behind the TAPE, four of each number, the highest first: how many it has");
        FrontierDesk d = new FrontierDesk();
        int a = 'w' << 24 | 'o' << 16 | 'r' << 8 | 'd';
        int b = ' ' << 24 | 'a' << 16 | ' ' << 8 | '1';
        int c = ' ' << 24 | '2' << 16 | ' ' << 8 | '3';
        int e = ';' << 24 | ' ' << 16 | ' ' << 8 | ' ';
        Due.is("feed", d.feed(a, b, c, e, 0x20202020), 20);
        Due.is("behind it", d.feed(a, b + (1 << 16), c + 1, e, 0x20202020), 40);
        Due.is("rules", d.rules(40), 2);
        // Bytes of 128 and more, and numbers below 0, change nothing in the bytes beside them.
        for (int i = 0; i < 20; i++) {
            int[] n = {0x20202020, 0x20202020, 0x20202020, 0x20202020, 0x20202020};
            n[i / 4] ^= (0x20 ^ 0xff) << 24 - i % 4 * 8;
            d.feed(n[0], n[1], n[2], n[3], n[4]);
            Due.is("byte 255 at " + i, d.rules(20), NONE);
            Due.is("its place", d.fault(1), i);
            d.feed(n[0], n[1], n[2], n[3], n[4]);
            Due.is("up to it", d.rules(i), 0);
        }
        d.feed(LEAST, MOST, -1, 0, 1);
        Due.is("the highest byte of the least number", d.rules(1), NONE);
    }

    private static void promise22Full() {
        Due.sentence("NONE, and none come, if it would have more than 1000.");
        FrontierDesk d = new FrontierDesk();
        String text = "word a 1; " + times(96, "          ") + "look 9;word bb 2 2;\n" + "          ";
        Due.is("1000 bytes", text.length(), 1000);
        int[] n = Due.numbers(text);
        for (int i = 0; i < 50; i++) {
            Due.is("feed", d.feed(n[5 * i], n[5 * i + 1], n[5 * i + 2], n[5 * i + 3], n[5 * i + 4]), 20 * (i + 1));
        }
        for (int i = 0; i < 3; i++) {
            Due.is("more than 1000", d.feed(-1, -1, -1, -1, -1), NONE);
        }
        Due.is("none came", d.rules(1001), -2);
        Due.is("none came", d.rules(1020), -2);
        Due.is("all is as it was", d.rules(1000), 2);
        Due.is("the last of it", d.count(7), 9);
        Due.is("from the front again", d.feed(0, 0, 0, 0, 0), 20);
        for (int i = 2; i <= 50; i++) {
            Due.is("full again", d.feed(0, 0, 0, 0, 0), 20 * i);
        }
        Due.is("more than 1000 again", d.feed(0, 0, 0, 0, 0), NONE);
        Due.is("none of it is read by rules(0)", d.rules(0), 0);
        Due.is("empty", d.feed(0, 0, 0, 0, 0), 20);
        FrontierDesk e = Story.told();
        for (int i = 2; i <= 50; i++) {
            e.feed(0, 0, 0, 0, 0);
        }
        Due.is("NONE", e.feed(0, 0, 0, 0, 0), NONE);
        Due.is("RULES stay", e.count(4), Story.WORDS);
        Due.is("the MESSAGE stays", e.sent(0), 7);
    }

    private static void promise23Empty() {
        Due.sentence("The TAPE's first n bytes (it is empty then) are the RULES: how many WORDS; no MESSAGE then.");
        FrontierDesk d = Story.told();
        Due.is("a MESSAGE", d.sent(0), 7);
        Due.is("no bytes", d.rules(0), 0);
        Due.is("no WORDS", d.count(4), 0);
        Due.is("no orders", d.count(5), 0);
        Due.is("minutes", d.count(6), 2);
        Due.is("look", d.count(7), 1);
        Due.is("no MESSAGE: sent", d.sent(0), NONE);
        Due.is("no MESSAGE: heard", d.heard(0, 0, 0), NONE);
        Due.is("nothing to send", d.send(0, 0, 0, 0, 9), NONE);
        Due.is("what is JOINED stays", d.joined(0, 0), 3);
        Due.is("POSTS stay", d.count(2), Story.POSTS);
        Due.is("supply stays", d.supplied(0, 0), 6);
        Due.clean("word a 1;" + times(991, " "), 1);
        Due.clean(times(991, " ") + "word a 1;", 1);
        Due.fault(times(999, " ") + "?", 1, 999);
    }

    private static void promise23TapeIsEmptyThen() {
        Due.sentence("(it is empty then)");
        FrontierDesk d = new FrontierDesk();
        Due.put(d, "word a 1;word b 2;  ");
        Due.is("the first nine", d.rules(9), 1);
        Due.is("the rest is gone", d.rules(1), -2);
        Due.is("from the front", d.feed(0, 0, 0, 0, 0), 20);
        Due.is("a FAULT", d.rules(20), NONE);
        Due.is("empty behind a FAULT", d.rules(1), -2);
        Due.is("from the front", d.feed(0, 0, 0, 0, 0), 20);
        Due.is("none of it", d.rules(0), 0);
        Due.is("empty behind rules(0)", d.rules(1), -2);
        Due.is("rules(0) of an empty one", d.rules(0), 0);
    }

    private static void promise23Fault() {
        Due.sentence("NONE with a FAULT");
        for (String text : new String[] {"?", "word a 0;", "word a 1;word a 2;", "word z 1;order any a do pass;",
            "word a 1;look 9;minutes 9;like 1 2;order any a do pass;word"}) {
            FrontierDesk d = Story.told();
            d.rules(0);
            Due.is("RULES", Due.rules(d, "word a 1 2;word b 3;minutes 3;look 2;order any b do pass;"), 2);
            d.send(0, 1, 1, 0, 9);
            int seen = d.sent(0);
            Due.is("rules \"" + text + "\"", Due.rules(d, text), NONE);
            Due.is("RULES stay: WORDS", d.count(4), 2);
            Due.is("orders", d.count(5), 1);
            Due.is("minutes", d.count(6), 3);
            Due.is("look", d.count(7), 2);
            Due.is("the MESSAGE stays", d.sent(0), seen);
            Due.is("what was HEARD stays", d.heard(1, 1, 0), 5);
            Due.is("they are still done", d.send(0, 1, 1, 0, 9), 4);
            Due.is("as they were", d.heard(1, 1, 0), 5);
        }
    }

    private static void promise23Refused() {
        Due.sentence("-2, and the TAPE stays: there are not so many, n is below 0.");
        for (int n : new int[] {21, 22, 1000, 1001, MOST, -1, -2, LEAST}) {
            Story.refuses("rules(" + n + ")", d -> d.rules(n), -2);
        }
        Due.is("just so many", Story.told().rules(20), 1);
        Due.is("one less", Story.told().rules(19), 1);
        FrontierDesk d = new FrontierDesk();
        Due.is("of an empty TAPE", d.rules(1), -2);
        Due.is("of an empty TAPE", d.rules(-1), -2);
        Due.is("none is enough", d.rules(0), 0);
        for (int i = 1; i <= 50; i++) {
            d.feed(0x20202020, 0x20202020, 0x20202020, 0x20202020, 0x20202020);
        }
        Due.is("of a full TAPE", d.rules(1001), -2);
        Due.is("all of a full TAPE", d.rules(1000), 0);
    }

    private static void promise24Faults() {
        Due.sentence("Of the latest rules() that was not -2, what 0: its FAULT (0), 1: its place (NONE). NONE for another "
                + "what.");
        FrontierDesk d = new FrontierDesk();
        Due.is("no rules() yet", d.fault(0), 0);
        Due.is("no rules() yet", d.fault(1), NONE);
        Due.rules(d, "look 31;");
        for (int n : new int[] {1, -1, MOST, LEAST}) {
            Due.is("-2", d.rules(n), -2);
            Due.is("its FAULT", d.fault(0), 2);
            Due.is("its place", d.fault(1), 5);
        }
        for (int what : new int[] {-1, 2, 3, LEAST, MOST}) {
            Due.is("fault(" + what + ")", d.fault(what), NONE);
        }
        d.land(5, 5);
        Due.is("another LAND changes nothing", d.fault(0), 2);
        Due.rules(d, "?");
        Due.is("the latest", d.fault(0), 1);
        Due.is("at the first byte", d.fault(1), 0);
        Due.rules(d, "word a 1;");
        Due.is("no FAULT", d.fault(0), 0);
        Due.is("no place", d.fault(1), NONE);
        Due.fault("word" + times(996, " "), 1, 1000);
        Due.rules(d, "?");
        d.rules(0);
        Due.is("rules(0) has no FAULT", d.fault(0), 0);
        Due.is("nor a place", d.fault(1), NONE);
    }
}
