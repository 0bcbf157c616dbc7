/** The document's Terms of THE TEXT: each sentence that names a boundary, at the boundary and on both sides of it. */
public final class TextEdgesTest extends Checks {
    private static final String NAMES = "abcdefgh";

    private TextEdgesTest() {
    }

    public static void main(String[] args) {
        bytes();
        blanks();
        bytesThatAreNone();
        asLongAsMayBe();
        words();
        numbers();
        signs();
        keyWords();
        rules();
        tests();
        comparisons();
        sums();
        picks();
        leftFirst();
        firstFault();
        leastFault();
        noToken();
        cannotStand();
        open();
        openIsClosed();
        ninthName();
        valuesWrap();
        cutTowardZero();
        rowsBefore();
        failures();
        places();
        leftToRight();
        decidedByLeft();
        Due.end();
    }

    private static String blanks(int n) {
        return " ".repeat(n);
    }

    private static void bytes() {
        in("THE TEXT has 200 bytes at most, told by places from 0.");
        RuleBroadcast x = new RuleBroadcast();
        for (int i = 1; i <= 10; i++) {
            is("feed " + i, x.feed(0, 0, 0, 0, 0), 20 * i);
        }
        is("feed 11", x.feed(0, 0, 0, 0, 0), FULL);
        is("keep(201)", x.keep(201), BAD);
        is("keep(200)", x.keep(200), 0);
        sound("a out 1" + blanks(192));
        sound("a out 1" + blanks(193));
        sound("a" + blanks(195) + "out1");
        faulty("!", 0, 1);
        faulty(" !", 1, 1);
        faulty("a out 1" + blanks(191) + "1", 198, 2);
        faulty("a out 1" + blanks(192) + "1", 199, 2);
        faulty("a out 1" + blanks(192) + "!", 199, 1);
        faulty("a out" + blanks(194), 199, 2);
        faulty("a out" + blanks(195), 200, 2);
        for (String last : new String[] {"<", ">", "=", "-", "k", "1"}) {
            // The last of 200 bytes, behind which there is none that could make its token longer.
            faulty("a if k" + blanks(193) + last, last.equals("k") || last.equals("1") ? 199 : 200, 2);
        }
        RuleBroadcast y = new RuleBroadcast();
        tell(y, blanks(20) + "!", 0, -30);
        tell(y, "!", 0, -10);
    }

    private static void blanks() {
        in("BLANKS are 32 and 10.");
        sound("a out 1");
        sound("a\nout\n1");
        sound("\n \na \n\n out  \n1 \n ");
        sound("a out ( 1 )\n+\n-\n1 , pick ( 1 : 2 , 3 )");
        for (int b : new int[] {0, 9, 11, 12, 13, 31, 127, 128, 160, 255}) {
            faulty("a" + (char) b + "out 1", 1, 1);
        }
        faulty("a out 1 2", 8, 2);
        faulty("a out 1\n2", 8, 2);
        faulty("a o ut 1", 2, 2);
    }

    private static void bytesThatAreNone() {
        in("TOKENS: WORDS, rows of letters a to z; NUMBERS, rows of digits; SIGNS ..");
        for (int b = 0; b < 256; b++) {
            String text = "a out 1 " + (char) b;
            if (b == 32 || b == 10) {
                sound(text);
            } else if ("+-*/%,".indexOf(b) >= 0) {
                faulty(text, 9, 2);
            } else if ("()[]:<>=#".indexOf(b) >= 0 || b >= 'a' && b <= 'z' || b >= '0' && b <= '9') {
                faulty(text, 8, 2);
            } else {
                faulty(text, 8, 1);
            }
        }
        sound("a out 1");
        sound("z out 1");
        faulty("` out 1", 0, 1);
        faulty("{ out 1", 0, 1);
        faulty("A out 1", 0, 1);
        faulty("Z out 1", 0, 1);
    }

    private static void asLongAsMayBe() {
        in("TOKENS, as long as may be");
        sound("aout out 1");
        sound("ifk out 1");
        sound("a if k<=1 out 1");
        sound("a if k>=1 out 1");
        sound("a if k<-1 out 1");
        sound("a if not1=1or[k=t]and not[1#1]out1");
        sound("a by1out1");
        faulty("aout 1", 5, 2);
        faulty("a outk", 2, 2);
        faulty("a if k< =1 out 1", 8, 2);
        faulty("a if k> =1 out 1", 8, 2);
        faulty("a if k<==1 out 1", 8, 2);
        faulty("a if k=<1 out 1", 7, 2);
        faulty("a if k=>1 out 1", 7, 2);
        faulty("a if k<>1 out 1", 7, 2);
        faulty("a if k><1 out 1", 7, 2);
        faulty("a if k==1 out 1", 7, 2);
        faulty("a if k<<1 out 1", 7, 2);
        faulty("a if notk=1 out 1", 5, 2);
        faulty("a out kt", 6, 2);
        faulty("a out k1", 7, 2);
        faulty("a out 1k", 7, 2);
        faulty("a out 12 3", 9, 2);
        tried("a if 7<=k out 1", 1);
        tried("a if 8<=k out 1", 0);
        tried("a if 7>=k out 1", 1);
        tried("a if 6>=k out 1", 0);
    }

    private static void words() {
        in("WORDS, rows of letters a to z, 8 at most");
        for (int letters = 1; letters <= 20; letters++) {
            String word = "z".repeat(letters);
            if (letters <= 8) {
                sound(word + " out 1");
                faulty("a out " + word, 6, 2);
            } else {
                faulty(word + " out 1", 0, 1);
                faulty("a out " + word, 6, 1);
            }
        }
        sound("abcdefgh out 1");
        sound("picknots out 1");
        faulty("outoutout", 0, 1);
        faulty("a outoutout 1", 2, 1);
        faulty("a kkkkkkkkk", 2, 1);
        RuleBroadcast x = with("abcdefgh out 1", "abcdefgi out 1", "bbcdefgh out 1", "abcdefg out 1", "bcdefgh out 1",
                "h out 1", "aa out 1", "a out 1");
        is("count(2), none is the name of another", x.count(2), 8);
        tell(x, "abcdefgh out 1", 10, 9);
        is("rules(9, 0, 1)", x.rules(9, 0, 1), 9);
    }

    private static void numbers() {
        in("NUMBERS, rows of digits, 9 at most");
        for (int digits = 1; digits <= 20; digits++) {
            String number = "9".repeat(digits);
            if (digits <= 9) {
                sum(number, Long.parseLong(number));
                sum("0".repeat(digits - 1) + "4", 4);
            } else {
                faulty("a out " + number, 6, 1);
                faulty("a out " + "0".repeat(digits), 6, 1);
                faulty("a out 1 " + number, 8, 1);
            }
        }
        sum("000000000", 0);
        sum("123456789", 123456789);
        sum("-999999999", -999999999);
        faulty("0 out 1", 0, 2);
        faulty("1234567890", 0, 1);
    }

    private static void signs() {
        in("SIGNS ( ) [ ] + - * / % , : < <= > >= = #.");
        sound("a if [(k)+t-v*n/1%2<1] and k<=1 and k>1 and k>=1 and k=1 and k#1 out pick(k:1),2");
        for (String sign : "( ) [ ] + - * / % , : < <= > >= = #".split(" ")) {
            faulty(sign, 0, 2);
            faulty("a " + sign, 2, 2);
        }
        for (String none : "{ } . ; ! ? & | ^ ~ \\ ' \" @ $ _".split(" ")) {
            faulty(none, 0, 1);
            faulty("a " + none, 2, 1);
        }
    }

    private static void keyWords() {
        in("KEY WORDS are by, if, out, or, and, not, pick, k, t, v, n; a NAME is any other WORD.");
        for (String word : "by if out or and not pick k t v n".split(" ")) {
            faulty(word + " out 1", 0, 2);
            sound(word + word + " out 1");
            sound(word + "a out 1");
            sound("a" + word + " out 1");
        }
        for (String word : "b y i f o u ou ut r an nd no ot pic ick p a z".split(" ")) {
            sound(word + " out 1");
        }
    }

    private static void rules() {
        in("A RULE: a NAME; perhaps by and a SUM; perhaps if and a TEST; out, and one to four SUMS with , between.");
        sound("a out 1");
        sound("a by 1 out 1");
        sound("a if 1=1 out 1");
        sound("a by 1 if 1=1 out 1");
        faulty("", 0, 2);
        faulty("1", 0, 2);
        faulty("out 1", 0, 2);
        faulty("a", 1, 2);
        faulty("a b out 1", 2, 2);
        faulty("a 1", 2, 2);
        faulty("a by", 4, 2);
        faulty("a by out 1", 5, 2);
        faulty("a by 1", 6, 2);
        faulty("a by 1,2 out 1", 6, 2);
        faulty("a by 1=1 out 1", 6, 2);
        faulty("a by 1 by 1 out 1", 7, 2);
        faulty("a if", 4, 2);
        faulty("a if out 1", 5, 2);
        faulty("a if 1=1", 8, 2);
        faulty("a if 1=1 if 1=1 out 1", 9, 2);
        faulty("a if 1=1 by 1 out 1", 9, 2);
        faulty("a if 1=1,1=1 out 1", 8, 2);
        faulty("a out 1 if 1=1", 8, 2);
        faulty("a out 1 by 1", 8, 2);
        faulty("a out 1 out 1", 8, 2);
        faulty("a out 1=1", 7, 2);
        faulty("a out", 5, 2);
        faulty("a out ,1", 6, 2);
        faulty("a out 1,", 8, 2);
        faulty("a out 1,,1", 8, 2);
        faulty("a out 1,2,3,", 12, 2);
        faulty("a out 1,2,3,4,", 13, 2);
        faulty("a out 1,2,3,4,5", 13, 2);
        for (int n = 1; n <= 4; n++) {
            RuleBroadcast x = with("a out k" + ",k".repeat(n - 1));
            x.apply(0, 1);
            is("row() of " + n + " sums", x.row(0, 7, 0, 0), n);
        }
    }

    private static void tests() {
        in("TEST: BOTHS with or between. BOTH: ONES with and between. ONE: not and a ONE; [ TEST ]; ..");
        faulty("a if or 1=1 out 1", 5, 2);
        faulty("a if 1=1 or", 11, 2);
        faulty("a if 1=1 or or 1=1 out 1", 12, 2);
        faulty("a if 1=1 or and 1=1 out 1", 12, 2);
        faulty("a if 1=1 and out 1", 13, 2);
        faulty("a if 1=1 not 1=1 out 1", 9, 2);
        faulty("a if not", 8, 2);
        faulty("a if not or 1=1 out 1", 9, 2);
        faulty("a if not 1 out 1", 11, 2);
        faulty("a if 1=not 1 out 1", 7, 2);
        faulty("a if [] out 1", 6, 2);
        faulty("a if [1=1", 9, 2);
        faulty("a if [1=1) out 1", 9, 2);
        faulty("a if [1=1]] out 1", 10, 2);
        faulty("a if [1=1][1=1] out 1", 10, 2);
        faulty("a if [1]=1 out 1", 7, 2);
        faulty("a if [1=1]=1 out 1", 10, 2);
        faulty("a if 1=[1=1] out 1", 7, 2);
        faulty("a if (1=1) out 1", 7, 2);
        // Where and were not ahead of or, the first of each pair would be as the second.
        tried("a if 1=1 or 1=1 and 1=2 out 1", 1);
        tried("a if [1=1 or 1=1] and 1=2 out 1", 0);
        tried("a if 1=2 and 1=2 or 1=1 out 1", 1);
        tried("a if 1=2 and [1=2 or 1=1] out 1", 0);
        // Where not went beyond its ONE, the first of each pair would be as the second.
        tried("a if not 1=1 or 1=1 out 1", 1);
        tried("a if not [1=1 or 1=1] out 1", 0);
        tried("a if not 1=2 and 1=2 out 1", 0);
        tried("a if not [1=2 and 1=2] out 1", 1);
        tried("a if not not 1=1 out 1", 1);
        tried("a if not not not 1=1 out 1", 0);
    }

    private static void comparisons() {
        in("SUM, one of < <= > >= = # (unlike), SUM.");
        String[] signs = {"<", "<=", ">", ">=", "=", "#"};
        int[][] due = {{1, 0, 0}, {1, 1, 0}, {0, 0, 1}, {0, 1, 1}, {0, 1, 0}, {1, 0, 1}};
        for (int i = 0; i < signs.length; i++) {
            String rule = "a if k" + signs[i] + "v out 1";
            for (long v : new long[] {0, -4, MIN + 1, MAX - 1, 1L << 32}) {
                triedOn(rule, v - 1, v, due[i][0]);
                triedOn(rule, v, v, due[i][1]);
                triedOn(rule, v + 1, v, due[i][2]);
            }
            triedOn(rule, MIN, MAX, due[i][0]);
            triedOn(rule, MAX, MAX, due[i][1]);
            triedOn(rule, MIN, MIN, due[i][1]);
            triedOn(rule, MAX, MIN, due[i][2]);
            faulty("a if " + signs[i] + "1 out 1", 5, 2);
            faulty("a if 1" + signs[i], 6 + signs[i].length(), 2);
            faulty("a if 1" + signs[i] + "1" + signs[i] + "1 out 1", 7 + signs[i].length(), 2);
        }
        faulty("a if 1 out 1", 7, 2);
    }

    private static void sums() {
        in("SUM: PARTS with + or - between. PART: UNITS with *, / or % between. UNIT: ..");
        for (String sign : "+ - * / %".split(" ")) {
            sound("a out 1" + sign + "1");
            sound("a out 1" + sign + "-1");
            faulty("a out 1" + sign, 8, 2);
            faulty("a out 1" + sign + ")", 8, 2);
            if (!sign.equals("-")) {
                faulty("a out " + sign + "1", 6, 2);
                faulty("a out 1" + sign + sign + "1", 8, 2);
            }
        }
        faulty("a out -", 7, 2);
        faulty("a out -+1", 7, 2);
        faulty("a out -b", 7, 2);
        faulty("a out ()", 7, 2);
        faulty("a out (1", 8, 2);
        faulty("a out (1]", 8, 2);
        faulty("a out (1))", 9, 2);
        faulty("a out (1,2)", 8, 2);
        faulty("a out (1)(2)", 9, 2);
        faulty("a out 1(2)", 7, 2);
        faulty("a out [1]", 6, 2);
        faulty("a out not 1", 6, 2);
        faulty("a out b", 6, 2);
        sum("k+t*v", -8);
        sum("(k+t)*v", -50);
        sum("k*t+v", 16);
        sum("k-t%2", 6);
        sum("-k+t", -4);
        sum("-(k+t)", -10);
        sum("-k*t", -21);
        sum("k*-t", -21);
        sum("k--t", 10);
        sum("---k", -7);
    }

    private static void picks() {
        in("pick ( SUM : one to six SUMS with , between ).");
        faulty("a out pick", 10, 2);
        faulty("a out pick 1", 11, 2);
        faulty("a out pick[1:2]", 10, 2);
        faulty("a out pick(", 11, 2);
        faulty("a out pick(:1)", 11, 2);
        faulty("a out pick(1)", 12, 2);
        faulty("a out pick(1,2)", 12, 2);
        faulty("a out pick(0:)", 13, 2);
        faulty("a out pick(0:1", 14, 2);
        faulty("a out pick(0:1:2)", 14, 2);
        faulty("a out pick(0:,1)", 13, 2);
        faulty("a out pick(0:1,)", 15, 2);
        faulty("a out pick(0:1]", 14, 2);
        faulty("a out pick(0=0:1)", 12, 2);
        faulty("a out pick(0:1,2,3,4,5,6,)", 24, 2);
        faulty("a out pick(0:1,2,3,4,5,6,7)", 24, 2);
        for (int n = 1; n <= 6; n++) {
            StringBuilder pick = new StringBuilder("pick(k:10");
            for (int i = 1; i < n; i++) {
                pick.append(",1").append(i);
            }
            pick.append(')');
            for (int i = 0; i < n; i++) {
                sumOf(pick.toString(), i, 0, 10 + i);
                sumOf("1+" + pick + "*2", i, 0, 21 + 2 * i);
            }
        }
        sumOf("pick(k:1,2)+pick(v:3,4)", 1, 0, 5);
        sumOf("pick(pick(k:1,0):pick(v:3,4),5)", 0, 1, 5);
        sumOf("pick(pick(k:1,0):pick(v:3,4),5)", 1, 1, 4);
        sound("a out pick(0:1),pick(0:1),pick(0:1),pick(0:1)");
        sound("a by pick(0:1,2,3,4,5,6) out pick(0:1,2,3,4,5,6),2,3,4");
    }

    private static void leftFirst() {
        in("Of signs of one sort the left one binds first.");
        sum("10-4-3", 3);
        sum("10-4+3", 9);
        sum("10+4-3-2", 9);
        sum("100/10/5", 2);
        sum("100/10*5", 50);
        sum("7*10%4", 2);
        sum("100%30%7", 3);
        sum("100/7%5", 4);
        sum("100%7*5", 10);
        sum("100-7*5-3*2", 59);
    }

    private static void firstFault() {
        in("FAULTS, the first TOKEN that has one");
        faulty("a out ! )", 6, 1);
        faulty("a out ) !", 6, 2);
        faulty("a out ! abcdefghi", 6, 1);
        faulty("a out 1 1234567890 )", 8, 1);
        faulty("a out " + "(".repeat(13) + "!", 18, 3);
        faulty("a out " + "(".repeat(13) + "]", 18, 3);
        faulty("a out !" + "(".repeat(13), 6, 1);
        faulty("a out 1 " + "(".repeat(13), 8, 2);
        faulty("a out " + "(".repeat(12) + "!(", 18, 1);
        faulty("a out " + "(".repeat(12) + ")(", 18, 2);
        RuleBroadcast x = withEightNames();
        fault(x, " i !", 1, 4);
        fault(x, " i", 1, 4);
        fault(x, " i )", 1, 4);
        fault(x, " i out " + "(".repeat(13), 1, 4);
        fault(x, "! i", 0, 1);
        fault(x, "( i", 0, 2);
        fault(x, "a out " + "(".repeat(13) + " i", 18, 3);
    }

    private static void leastFault() {
        in("FAULTS, .. of one the least");
        // 1 and 2: none, at a place where nothing could stand.
        faulty("a abcdefghi", 2, 1);
        faulty("a 1234567890", 2, 1);
        faulty("a out 1 !", 8, 1);
        // 2 and 3: what would be the 13th, but cannot stand there.
        faulty("a out " + "(".repeat(12) + "[", 18, 2);
        faulty("a out " + "(".repeat(12) + "not", 18, 2);
        faulty("a out " + "(".repeat(12) + "k(", 19, 2);
        faulty("a out " + "(".repeat(12) + "k pick", 20, 2);
        faulty("a if " + "[".repeat(12) + "k[", 18, 2);
        faulty("a if " + "[".repeat(12) + "k=not", 19, 2);
        // 1 and 4, 2 and 4: at the place of the ninth name.
        RuleBroadcast x = withEightNames();
        fault(x, "ijklmnopq out 1", 0, 1);
        fault(x, "! out 1", 0, 1);
        fault(x, "by out 1", 0, 2);
        fault(x, "n out 1", 0, 2);
        fault(x, "9 out 1", 0, 2);
        fault(x, "", 0, 2);
        fault(x, "a i", 2, 2);
        fault(x, "a out i", 6, 2);
        fault(x, "i out 1", 0, 4);
    }

    private static RuleBroadcast withEightNames() {
        RuleBroadcast x = new RuleBroadcast();
        for (int i = 0; i < NAMES.length(); i++) {
            tell(x, NAMES.charAt(i) + " out 1", 10, i + 1);
        }
        return x;
    }

    private static void fault(RuleBroadcast x, String text, int place, int kind) {
        int changes = x.count(1);
        tell(x, text, 10, -10 - place);
        is("fault() of " + text, x.fault(), kind);
        is("count(1) behind " + text, x.count(1), changes);
        is("count(2) behind " + text, x.count(2), 8);
    }

    private static void noToken() {
        in("1 it is none (at its first byte; a WORD of nine, a NUMBER of ten letters or digits).");
        sound("abcdefgh out 123456789");
        faulty("abcdefghi out 123456789", 0, 1);
        faulty("  abcdefghi out 123456789", 2, 1);
        faulty("abcdefgh out 1234567890", 13, 1);
        faulty("abcdefgh out\n\n1234567890", 14, 1);
        faulty("a out k!", 7, 1);
        faulty("a out k !", 8, 1);
        faulty("a out k!!", 7, 1);
        faulty("a out kkkkkkkkk", 6, 1);
        faulty("a out 1,1234567890,!", 8, 1);
        faulty("a out 123456789a", 15, 2);
        faulty("a out 123456789abcdefghi", 15, 1);
        faulty("abcdefgh1234567890", 8, 1);
    }

    private static void cannotStand() {
        in("2 it cannot stand there (also the , ahead of one SUM too many; the end: behind the last byte).");
        sound("a out 1,2,3,4");
        faulty("a out 1,2,3,4 , 5", 14, 2);
        faulty("a out 1,2,3,4,!", 13, 2);
        sound("a out pick(0:1,2,3,4,5,6),2,3,4");
        faulty("a out pick(0:1,2,3,4,5,6 , 7)", 25, 2);
        faulty("a out 1,2,3,pick(0:1,2,3,4,5,6),5", 31, 2);
        faulty("a out (1,2)", 8, 2);
        faulty("a", 1, 2);
        faulty("a ", 2, 2);
        faulty("a out", 5, 2);
        faulty("a out \n ", 8, 2);
        faulty("a out 1+", 8, 2);
        faulty("a out 1+ ", 9, 2);
        faulty("\n", 1, 2);
        faulty(blanks(200), 200, 2);
    }

    private static void open() {
        in("3 the 13th that is open of ( [ pick, not, - of one UNIT");
        String[] opening = {"-", "(", "pick(", "pick(1:"};
        String[] closing = {"", ")", ":1)", ")"};
        for (int i = 0; i < opening.length; i++) {
            int width = opening[i].length();
            sound("a out " + opening[i].repeat(11) + "k" + closing[i].repeat(11));
            sound("a out " + opening[i].repeat(12) + "k" + closing[i].repeat(12));
            faulty("a out " + opening[i].repeat(13) + "k" + closing[i].repeat(13), 6 + 12 * width, 3);
            faulty("a out " + opening[i].repeat(14), 6 + 12 * width, 3);
            faulty("a by " + opening[i].repeat(13), 5 + 12 * width, 3);
            faulty("a if " + opening[i].repeat(13), 5 + 12 * width, 3);
            faulty("a out " + opening[i].repeat(12) + "-k", 6 + 12 * width, 3);
            faulty("a out " + opening[i].repeat(12) + "(k", 6 + 12 * width, 3);
            faulty("a out " + opening[i].repeat(12) + "pick(k", 6 + 12 * width, 3);
        }
        String[] tests = {"not ", "["};
        String[] ends = {"", "]"};
        for (int i = 0; i < tests.length; i++) {
            int width = tests[i].length();
            sound("a if " + tests[i].repeat(11) + "k=1" + ends[i].repeat(11) + " out 1");
            sound("a if " + tests[i].repeat(12) + "k=1" + ends[i].repeat(12) + " out 1");
            faulty("a if " + tests[i].repeat(13) + "k=1" + ends[i].repeat(13) + " out 1", 5 + 12 * width, 3);
            for (String more : new String[] {"not ", "[", "-k", "(k)", "pick(k:1)"}) {
                faulty("a if " + tests[i].repeat(12) + more, 5 + 12 * width, 3);
            }
            for (String more : new String[] {"-k", "(k)", "pick(k:1)"}) {
                sound("a if " + tests[i].repeat(11) + more + "=" + more + ends[i].repeat(11) + " out 1");
                faulty("a if " + tests[i].repeat(12) + "k=" + more, 7 + 12 * width, 3);
            }
        }
        sound("a if [not [not -(-(pick(-(-k):1)))=1]] out 1");
        faulty("a if [not [not -(-(pick(-(--k", 27, 3);
        faulty("a if [not [not -(-(pick(-(-(k", 27, 3);
        faulty("a if [not [not -(-(pick(-(-pick", 27, 3);
    }

    private static void openIsClosed() {
        in("(all to their ) or ] ; the ( of a pick does not count besides), (both to the end of what they stand "
                + "in front of)");
        // What was closed leaves its room to others.
        sound("a out " + "(1)+".repeat(13) + "1");
        sound("a out " + "-1+".repeat(13) + "1");
        sound("a out " + "pick(0:1)+".repeat(13) + "1");
        sound("a if " + "[k=1]and".repeat(13) + " k=1 out 1");
        sound("a if " + "not k=1 or ".repeat(13) + "k=1 out 1");
        sound("a out " + "(".repeat(12) + "k)" + "+(k)".repeat(3) + ")".repeat(11));
        faulty("a out " + "(".repeat(12) + "k)" + "+((k", 22, 3);
        sound("a out " + "-".repeat(12) + "k*" + "-".repeat(12) + "k-" + "-".repeat(12) + "k");
        faulty("a out " + "-".repeat(12) + "k*" + "-".repeat(13) + "k", 32, 3);
        sound("a out " + "-".repeat(12) + "k," + "-".repeat(12) + "k");
        sound("a by " + "-".repeat(12) + "k if " + "-".repeat(12) + "k=" + "-".repeat(12) + "k out " + "-".repeat(12)
                + "k");
        // A sign between two UNITS opens nothing.
        sound("a out 1" + "-1".repeat(40));
        sound("a out " + "(".repeat(12) + "k-k-k" + ")".repeat(12));
        // What stands behind - is one UNIT: it is open to that one's ).
        sound("a out " + "-(".repeat(6) + "k" + ")".repeat(6));
        faulty("a out " + "-(".repeat(6) + "-k", 18, 3);
        faulty("a out " + "-(".repeat(6) + "k+(", 20, 3);
        sound("a out " + "-(".repeat(6) + "k)+(-k)" + ")".repeat(5));
        faulty("a out " + "-(".repeat(6) + "k)+(-(", 23, 3);
        sound("a out -pick(-1:-2)*" + "-".repeat(12) + "k");
        // Of a pick the word is open, not its ( besides, to its ).
        sound("a out " + "pick(".repeat(11) + "(k)" + ":1)".repeat(11));
        faulty("a out " + "pick(".repeat(12) + "(k)", 66, 3);
        faulty("a out " + "pick(0:".repeat(12) + "1,(", 92, 3);
        sound("a out " + "pick(0:".repeat(11) + "1,(2)" + ")".repeat(11));
        // A not is open to the end of its ONE, on both sides of the sign.
        sound("a if " + "not ".repeat(12) + "k=1 and " + "not ".repeat(12) + "k=1 out 1");
        sound("a if " + "not ".repeat(12) + "k=1 or " + "not ".repeat(12) + "k=1 out 1");
        sound("a if " + "not ".repeat(12) + "k=1 out " + "-".repeat(12) + "k");
        sound("a if [" + "not ".repeat(11) + "k=1] and " + "not ".repeat(12) + "k=1 out 1");
        sound("a if not [" + "not ".repeat(10) + "k=1 or " + "not ".repeat(10) + "k=1] out 1");
        faulty("a if not [" + "not ".repeat(10) + "k=1 or " + "not ".repeat(11) + "k=1] out 1", 97, 3);
        faulty("a if " + "not ".repeat(12) + "k=1 and " + "not ".repeat(13) + "k=1", 109, 3);
        sound("a if " + "not [".repeat(6) + "k=1" + "]".repeat(6) + " out 1");
        faulty("a if " + "not [".repeat(6) + "-k", 35, 3);
        sound("a if " + "not [".repeat(6) + "k=1]and -k=1" + "]".repeat(5) + " out 1");
    }

    private static void ninthName() {
        in("4 the ninth NAME.");
        RuleBroadcast x = withEightNames();
        is("count(2)", x.count(2), 8);
        fault(x, "i out 1", 0, 4);
        fault(x, "\n i out 1", 2, 4);
        fault(x, "aa out 1", 0, 4);
        tell(x, "h out 1", 10, 9);
        tell(x, "a out 1", 10, 10);
        is("drop(3, 10)", x.drop(3, 10), 11);
        fault(x, "i out 1", 0, 4);
        tell(x, "d out 1", 10, 12);
        is("rules(12, 3, 1)", x.rules(12, 3, 1), 12);
        is("clear()", x.clear(), 12);
        tell(x, "i out 1", 10, 1);
        is("rules(1, 0, 1)", x.rules(1, 0, 1), 1);
        RuleBroadcast y = with("a out 1", "b out 1", "c out 1", "d out 1", "e out 1", "f out 1", "g out 1");
        tell(y, "i out", 10, -15);
        tell(y, "h out 1", 10, 8);
        fault(y, "i out 1", 0, 4);
        RuleBroadcast z = new RuleBroadcast();
        z.mark();
        for (int i = 0; i < NAMES.length(); i++) {
            tell(z, NAMES.charAt(i) + " out 1", 10, i + 1);
        }
        is("restore(0)", z.restore(0), 9);
        fault(z, "i out 1", 0, 4);
        tell(z, "h out 1", 10, 10);
        is("rules(10, 7, 1)", z.rules(10, 7, 1), 10);
    }

    private static void valuesWrap() {
        in("VALUES are longs that wrap");
        sumOf("k+v", MAX, 0, MAX);
        sumOf("k+v", MAX, 1, MIN);
        sumOf("k+v", MIN, -1, MAX);
        sumOf("k-v", MIN, 0, MIN);
        sumOf("k-v", MIN, 1, MAX);
        sumOf("k-v", MAX, -1, MIN);
        sumOf("k-v", 0, MIN, MIN);
        sumOf("k*v", MAX, 1, MAX);
        sumOf("k*v", MAX, 2, -2);
        sumOf("k*v", MIN, -1, MIN);
        sumOf("k*v", 1L << 32, 1L << 31, MIN);
        sumOf("k*v", 1L << 32, 1L << 32, 0);
        sumOf("k*v", 3037000499L, 3037000499L, 9223372030926249001L);
        sumOf("k*v", 3037000500L, 3037000500L, -9223372036709301616L);
        sumOf("-k", MIN, 0, MIN);
        sumOf("-k", MIN + 1, 0, MAX);
        sumOf("-k", MAX, 0, MIN + 1);
        sumOf("k/v", MIN, -1, MIN);
        sumOf("k/v", MIN + 1, -1, MAX);
        sumOf("k%v", MIN, -1, 0);
        sumOf("k", MIN, 0, MIN);
        sumOf("v", 0, MAX, MAX);
        sumOf("999999999*999999999*999999999", 0, 0, 999999999L * 999999999L * 999999999L);
    }

    private static void cutTowardZero() {
        in("/ and % cut toward 0.");
        long[][] due = {{7, 2, 3, 1}, {-7, 2, -3, -1}, {7, -2, -3, 1}, {-7, -2, 3, -1}, {1, 2, 0, 1}, {-1, 2, 0, -1},
            {1, -2, 0, 1}, {6, 2, 3, 0}, {-6, 2, -3, 0}, {0, 5, 0, 0}, {0, -5, 0, 0}, {5, 5, 1, 0}, {5, -5, -1, 0},
            {MIN, 2, MIN / 2, 0}, {MAX, -2, -(MAX / 2), 1}, {MIN, MAX, -1, -1}, {MAX, MIN, 0, MAX}, {MIN, MIN, 1, 0}};
        for (long[] one : due) {
            sumOf("k/v", one[0], one[1], one[2]);
            sumOf("k%v", one[0], one[1], one[3]);
        }
    }

    private static void rowsBefore() {
        in("k, t, v are the ROW's, n is how many ROWS its TASK judged before it.");
        RuleBroadcast x = with("a out k,t,v,n", "b if v=0 out 1/v");
        x.tasks(2);
        x.row(1, 0, 0, 0);
        x.apply(0, 60);
        x.apply(1, 60);
        x.row(0, MAX, MIN, 3);
        cameOut(x, 0, 0, 3, MIN, MAX);
        x.row(0, 4, 5, 0);
        is("n behind one", x.out(0, 0), 1);
        x.row(0, 4, 5, 0);
        is("n behind one with a failure", x.out(0, 0), 2);
        x.row(1, 4, 5, 1);
        is("n of the other task, behind one without rules", x.out(1, 0), 1);
        x.tries(0, 0, 0, 0);
        x.goes(0, 0, 0, 0);
        x.row(7, 0, 0, 0);
        x.row(0, 4, 5, 6);
        is("n behind what is no row of the task", x.out(0, 0), 3);
        RuleBroadcast y = with("a out n");
        y.asOf(true);
        is("row() that waits", y.row(0, 0, 10, 0), WAITS);
        is("row() that waits", y.row(0, 0, 10, 0), WAITS);
        is("row() ahead of it", y.row(0, 0, 9, 0), 0);
        y.apply(0, 1);
        cameOut(y, 0, 2, 1);
    }

    private static void failures() {
        in("FAILURES, as the machine has them: 1 / or % by 0; 2 pick of a place that there is not");
        for (long k : new long[] {0, 1, -1, MIN, MAX}) {
            triedOn("a out k/v", k, 0, -11);
            triedOn("a out k%v", k, 0, -11);
            for (long v : new long[] {1, -1, MIN, MAX, 1L << 32}) {
                triedOn("a out k/v", k, v, 1);
                triedOn("a out k%v", k, v, 1);
            }
        }
        triedOn("a out 1/(k-v)", 5, 5, -11);
        triedOn("a out 1/(k-v)", 5, 6, 1);
        triedOn("a out 1%(k+v)", MIN, MIN, -11);
        triedOn("a out 1/k/v", 1, 0, -11);
        triedOn("a out pick(k:1)", 1, 0, -12);
        tried("a out 0*1/0", -11);
        tried("a if 1/0=0 out 1", -11);
        tried("a if pick(1:1)=0 out 1", -12);
    }

    private static void places() {
        in("2 pick of a place that there is not (0 is the first SUM behind :).");
        for (int n = 1; n <= 6; n++) {
            String rule = "a out pick(k:1" + ",1".repeat(n - 1) + ")";
            triedOn(rule, -1, 0, -12);
            triedOn(rule, 0, 0, 1);
            triedOn(rule, n - 1, 0, 1);
            triedOn(rule, n, 0, -12);
            for (long far : new long[] {MIN, MAX, 1L << 32, (1L << 32) + n - 1, -(1L << 32), 1L << 31, 256}) {
                triedOn(rule, far, 0, -12);
            }
        }
    }

    private static void leftToRight() {
        in("All is done from left to right; of a pick the SUM ahead of : , then all behind it, then it is picked.");
        tried("a out 1/0+pick(9:1)", -11);
        tried("a out pick(9:1)+1/0", -12);
        tried("a out 1/0*pick(9:1)", -11);
        tried("a out pick(9:1)%0", -12);
        tried("a out 0%0/pick(9:1)", -11);
        tried("a out 1/pick(9:1)", -12);
        tried("a out -pick(9:1)-1/0", -12);
        tried("a out (1/0)-pick(9:1)", -11);
        tried("a out 1,2,3,1/0", -11);
        tried("a out 1,pick(9:1),1/0", -12);
        tried("a out 1,1/0,pick(9:1)", -11);
        tried("a if pick(9:1)=1/0 out 1", -12);
        tried("a if 1/0=pick(9:1) out 1", -11);
        tried("a if 1/0=1 out pick(9:1)", -11);
        tried("a if pick(9:1)=1 out 1/0", -12);
        tried("a out pick(1/0:pick(9:1))", -11);
        tried("a out pick(pick(9:1):1/0)", -12);
        tried("a out pick(9:1/0)", -11);
        tried("a out pick(0:1/0)", -11);
        tried("a out pick(0:1,1/0)", -11);
        tried("a out pick(1:1/0,1)", -11);
        tried("a out pick(0:1,pick(9:1),1/0)", -12);
        tried("a out pick(0:1,1/0,pick(9:1))", -11);
        tried("a out pick(1:1)/0", -12);
        tried("a out pick(0:0)/0", -11);
    }

    private static void decidedByLeft() {
        in("Behind or and and what is on the right is done only if the left does not decide.");
        tried("a if 1=1 or 1/0=1 out 1", 1);
        tried("a if 1=2 or 1/0=1 out 1", -11);
        tried("a if 1=2 and 1/0=1 out 1", 0);
        tried("a if 1=1 and 1/0=1 out 1", -11);
        tried("a if 1/0=1 or 1=1 out 1", -11);
        tried("a if 1/0=1 and 1=2 out 1", -11);
        tried("a if 1=2 or 1=1 or 1/0=1 out 1", 1);
        tried("a if 1=1 and 1=2 and 1/0=1 out 1", 0);
        tried("a if 1=2 or 1=2 or 1/0=1 out 1", -11);
        tried("a if 1=1 and 1=1 and 1/0=1 out 1", -11);
        // The left of this or is a BOTH, which is decided; that of the or is not.
        tried("a if 1=2 and 1/0=1 or 1=1 out 1", 1);
        tried("a if 1=2 and 1/0=1 or 1=2 out 1", 0);
        tried("a if 1=2 and 1=1 or 1/0=1 out 1", -11);
        tried("a if 1=1 or 1/0=1 and 1/0=1 out 1", 1);
        tried("a if 1=1 or 1/0=1 and 1=2 or 1/0=1 out 1", 1);
        tried("a if not 1=1 and 1/0=1 out 1", 0);
        tried("a if not 1=2 or 1/0=1 out 1", 1);
        tried("a if not 1=1 or 1/0=1 out 1", -11);
        tried("a if not [1=1 or 1/0=1] out 1", 0);
        tried("a if [1=2 and 1/0=1] or [1=1 or 1/0=1] out 1", 1);
        tried("a if [1=1 or 1/0=1] and 1/0=1 out 1", -11);
        // A TEST that does not hold: what is behind out is not done.
        tried("a if 1=2 out 1/0", 0);
        tried("a if 1=1 out 1/0", -11);
    }
}
