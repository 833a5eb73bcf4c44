/** "FORMULAS are read from THE TAPE": each sentence of Terms 1 on formulas, faults, spelling, outcomes. */
public final class FormulasTest {
    private static final Due due = new Due("FormulasTest");

    public static void main(String[] args) {
        numbers();
        letters();
        lettersByCount();
        signsThatJoin();
        comparisons();
        minuses();
        brackets();
        choices();
        greater();
        wrapping();
        divisions();
        leftAheadOfRight();
        failsAtOnce();
        onlyOneIsWorkedOut();
        faultsOfParts();
        faultsOfSigns();
        faultsOfBrackets();
        faultsAtTheEnds();
        bytesThatCantStand();
        spelledAsTold();
        theLongestSpelled();
        due.end();
    }

    /** The outcome of a text over a = 7, b = -7, c = 2, d = 0, in truth and plainly worked out. */
    private static void outcome(String text, long want) {
        PulledSignals x = Due.withSources(7, -7, 2, 0);
        int memo = Due.memo(x, text);
        due.is(text, x.read(memo), want);
        due.is(text + ", plain", x.plain(memo), want);
    }

    private static void fault(String text, int place) {
        PulledSignals x = Due.withSources(7, -7);
        due.is("memo " + text, Due.memo(x, text), -200 - place);
        due.is("effect " + text, Due.effect(x, text), -200 - place);
        Due.memo(x, "1");
        due.is("reform " + text, Due.reform(x, 2, text), -200 - place);
        due.is("refusals of " + text, x.status(12), 3);
        due.is("cells behind " + text, x.status(0), 3);
    }

    private static void spelled(String text, String want) {
        PulledSignals x = Due.withSources(7, -7, 2, 0);
        int memo = Due.memo(x, text);
        due.text(text, Seen.formula(x, memo), want);
        due.is("behind " + want, x.spelled(memo, want.length()), Due.NONE);
        due.is("ahead of " + want, x.spelled(memo, -1), Due.NONE);
        int same = Due.memo(x, want);
        due.text(want, Seen.formula(x, same), want);
    }

    private static void numbers() {
        due.says("a NUMBER (1 to 3 digits, as many as stand there)");
        outcome("0", 0);
        outcome("9", 9);
        outcome("10", 10);
        outcome("12", 12);
        outcome("99", 99);
        outcome("100", 100);
        outcome("345", 345);
        outcome("678", 678);
        outcome("999", 999);
        outcome("00", 0);
        outcome("000", 0);
        outcome("010", 10);
        outcome("009", 9);
        fault("1234", 3);
        fault("0000", 3);
        fault("1+5678", 5);
        fault("(1000)", 4);
        fault("1a", 1);
        fault("12b", 2);
        fault("123a", 3);
        fault("1(", 1);
        fault("1[", 1);
        fault("1^", 1);
        fault("1~a", 1);
    }

    private static void letters() {
        due.says("a letter of a CELL that there is (or is GONE)");
        outcome("a", 7);
        outcome("~b", -7);
        fault("d", 0);
        fault("~d", 1);
        fault("a+d", 2);
        fault("`", 0);
        fault("A", 0);
        fault("{", 0);
        fault("ab", 1);
        fault("a1", 1);
        fault("~a~b", 2);
        PulledSignals x = Due.withSources(7, 8);
        x.dispose(1);
        due.is("a letter of one that is gone", Due.memo(x, "a+b"), 2);
        due.is("it is read as", x.read(2), Due.UNREADABLE);
        due.is("no letter of its own yet", Due.memo(x, "d"), -200);
        due.is("not of an effect either", Due.effect(x, "1+~d"), -203);
        due.is("nor untracked", Due.memo(x, "~d"), -201);
        due.is("but with another formula", Due.reform(x, 2, "1+~c"), 1);
        due.is("the latest one", Due.memo(x, "c"), 3);
        PulledSignals y = new PulledSignals();
        due.is("no cell, no letter", Due.memo(y, "a"), -200);
        due.is("no cell, no letter", Due.memo(y, "~a"), -201);
    }

    private static void lettersByCount() {
        due.says("24 at most (letters a to x in FORMULAS)");
        PulledSignals x = new PulledSignals();
        for (int c = 0; c < 24; c++) {
            String own = String.valueOf((char) ('a' + c));
            due.is("memo " + own + " of " + c, Due.memo(x, own), -200);
            if (c > 0) {
                String last = String.valueOf((char) ('a' + c - 1));
                due.is("memo " + last + " of " + c, Due.memo(x, last), c);
                due.is("its letter", x.spelled(c, 0), 'a' + c - 1);
            } else {
                x.source(5, Due.NONE);
            }
        }
        due.is("x of 24", Due.reform(x, 22, "x"), 1);
        due.is("y of 24", Due.reform(x, 22, "y"), -200);
        due.is("z of 24", Due.reform(x, 22, "~z"), -201);
        due.text("its formula", Seen.formula(x, 22), "x");
    }

    private static void signsThatJoin() {
        due.says("several with + or - between, from the left; several with *, / or % between, from the left");
        outcome("9-3-2", 4);
        outcome("9-3+2", 8);
        outcome("9+3-2", 10);
        outcome("64/4/2", 8);
        outcome("64/4*2", 32);
        outcome("64*4/2", 128);
        outcome("17%7%2", 1);
        outcome("17%7*2", 6);
        outcome("2*17%7", 6);
        outcome("2+3*4", 14);
        outcome("2*3+4", 10);
        outcome("20-6/2", 17);
        outcome("20-7%4", 17);
        outcome("2*3-4*5", -14);
        outcome("1+2*3-8/4+9%5", 9);
        spelled("1+2-3+a", "(((1+2)-3)+a)");
        spelled("1*2/3%a", "(((1*2)/3)%a)");
        spelled("1+2*3-4", "((1+(2*3))-4)");
        spelled("1*2+3*4", "((1*2)+(3*4))");
    }

    private static void comparisons() {
        due.says("COMP: a SUM, or two with <, = or > between (1 or 0)");
        outcome("1<2", 1);
        outcome("2<2", 0);
        outcome("3<2", 0);
        outcome("1=2", 0);
        outcome("2=2", 1);
        outcome("3=2", 0);
        outcome("1>2", 0);
        outcome("2>2", 0);
        outcome("3>2", 1);
        outcome("-1<0", 1);
        outcome("1+1=4-2", 1);
        outcome("2*3>5+0", 1);
        outcome("1+(1>0)", 2);
        outcome("(1<2)=(3>2)", 1);
        outcome("(3>2)>(1>2)", 1);
        spelled("1+2<3*4", "((1+2)<(3*4))");
        spelled("a>b-c", "(a>(b-c))");
        spelled("(1<2)=(a>b)", "((1<2)=(a>b))");
    }

    private static void minuses() {
        due.says("- PART");
        outcome("-1", -1);
        outcome("--1", 1);
        outcome("---1", -1);
        outcome("-a*2", -14);
        outcome("2*-3", -6);
        outcome("2--3", 5);
        outcome("2---3", -1);
        outcome("2+-3", -1);
        outcome("-(2-5)", 3);
        outcome("-[1?2:3]", -2);
        outcome("-^(1,2)", -2);
        outcome("-~a", -7);
        outcome("-7/2", -3);
        outcome("-7%4", -3);
        outcome("-(7%4)", -3);
        spelled("-1", "(-1)");
        spelled("--a", "(-(-a))");
        spelled("-~a", "(-~a)");
        spelled("-a*b", "((-a)*b)");
        spelled("a*-b", "(a*(-b))");
        spelled("a-b", "(a-b)");
        spelled("a--b", "(a-(-b))");
        spelled("-(a-b)", "(-(a-b))");
        spelled("-(-(a))", "(-(-a))");
    }

    private static void brackets() {
        due.says("( COMP )");
        outcome("(5)", 5);
        outcome("((((5))))", 5);
        outcome("(2+3)*4", 20);
        outcome("2*(3+4)", 14);
        outcome("9-(3-2)", 8);
        outcome("64/(4/2)", 32);
        outcome("(1<2)+(2<3)", 2);
        spelled("(5)", "5");
        spelled("((a))", "a");
        spelled("(~a)", "~a");
        spelled("(a+b)+c", "((a+b)+c)");
        spelled("a+(b+c)", "(a+(b+c))");
        spelled("a*(b-c)", "(a*(b-c))");
    }

    private static void choices() {
        due.says("[ COMP ? COMP : COMP ] (the second, if the first isn't 0, else the third)");
        outcome("[1?2:3]", 2);
        outcome("[0?2:3]", 3);
        outcome("[-1?2:3]", 2);
        outcome("[a?2:3]", 2);
        outcome("[b?2:3]", 2);
        outcome("[d?2:3]", 3);
        outcome("[1<2?3<4:5>6]", 1);
        outcome("[2<1?3<4:5>6]", 0);
        outcome("[1?[0?1:2]:3]", 2);
        outcome("[0?1:[1?2:3]]", 2);
        outcome("[[1?0:1]?2:3]", 3);
        outcome("[1?2:3]+[0?4:5]", 7);
        outcome("[0?1:2]*3-[1?4:5]", 2);
        outcome("^([1?8:3],[0?1:9])", 9);
        spelled("[a?b:c]", "[a?b:c]");
        spelled("[a+1?b-1:c*2]", "[(a+1)?(b-1):(c*2)]");
        spelled("[a<1?b=1:c>2]", "[(a<1)?(b=1):(c>2)]");
        spelled("[[a?b:c]?[1?2:3]:[4?5:6]]", "[[a?b:c]?[1?2:3]:[4?5:6]]");
        spelled("[(a)?(b):(c)]+1", "([a?b:c]+1)");
    }

    private static void greater() {
        due.says("^ ( COMP , COMP ) (the greater)");
        outcome("^(1,2)", 2);
        outcome("^(2,1)", 2);
        outcome("^(2,2)", 2);
        outcome("^(a,b)", 7);
        outcome("^(b,-9)", -7);
        outcome("^(b,d)", 0);
        outcome("^(1<2,0)", 1);
        outcome("^(^(1,5),^(3,4))", 5);
        outcome("2*^(3,4)-1", 7);
        spelled("^(a,b)", "^(a,b)");
        spelled("^(a+1,b<2)", "^((a+1),(b<2))");
        spelled("^((a),(b))*2", "(^(a,b)*2)");
        spelled("^(^(1,2),[a?b:c])", "^(^(1,2),[a?b:c])");
    }

    private static long over(int a, int b, String text) {
        PulledSignals x = Due.withSources(a, b);
        int memo = Due.memo(x, text);
        long read = x.read(memo);
        due.is(text + ", plain", x.plain(memo), read);
        return read;
    }

    private static void wrapping() {
        due.says("a number (an int, all sums wrapping)");
        due.is("MAX+1", over(Due.MAX, 1, "a+b"), Due.MIN);
        due.is("MIN-1", over(Due.MIN, 1, "a-b"), Due.MAX);
        due.is("MIN+MIN", over(Due.MIN, Due.MIN, "a+b"), 0);
        due.is("MAX*2", over(Due.MAX, 2, "a*b"), -2);
        due.is("65536*65536", over(65536, 65536, "a*b"), 0);
        due.is("MIN*-1", over(Due.MIN, -1, "a*b"), Due.MIN);
        due.is("-MIN", over(Due.MIN, 0, "-a"), Due.MIN);
        due.is("MIN/-1", over(Due.MIN, -1, "a/b"), Due.MIN);
        due.is("MIN%-1", over(Due.MIN, -1, "a%b"), 0);
        due.is("MAX", over(Due.MAX, 0, "a"), Due.MAX);
        due.is("MIN", over(Due.MIN, 0, "a"), Due.MIN);
        due.is("MIN<MAX", over(Due.MIN, Due.MAX, "a<b"), 1);
        due.is("MIN>MAX", over(Due.MIN, Due.MAX, "a>b"), 0);
        due.is("MAX>MIN", over(Due.MAX, Due.MIN, "a>b"), 1);
        due.is("the greater of MIN, MAX", over(Due.MIN, Due.MAX, "^(a,b)"), Due.MAX);
        due.is("the greater of MAX, MIN", over(Due.MAX, Due.MIN, "^(a,b)"), Due.MAX);
        due.is("whether MIN is 0", over(Due.MIN, 0, "[a?1:2]"), 1);
        due.is("4,000,000,001 wraps", over(2_000_000_000, 2_000_000_000, "a+b+1"), -294_967_295);
    }

    private static void divisions() {
        due.says("/ (cut) or % (its rest); / and % by 0: FAIL ZERO");
        outcome("a/c", 3);
        outcome("b/c", -3);
        outcome("a/-c", -3);
        outcome("b/-c", 3);
        outcome("a%c", 1);
        outcome("b%c", -1);
        outcome("a%-c", 1);
        outcome("b%-c", -1);
        outcome("1/2", 0);
        outcome("-1/2", 0);
        outcome("0/5", 0);
        outcome("0%5", 0);
        outcome("1/0", Due.ZERO);
        outcome("1%0", Due.ZERO);
        outcome("0/0", Due.ZERO);
        outcome("0%d", Due.ZERO);
        outcome("a/d", Due.ZERO);
        outcome("a%(c-2)", Due.ZERO);
        outcome("0*(1/0)", Due.ZERO);
        outcome("-(1/0)", Due.ZERO);
        outcome("(1/0)=(1/0)", Due.ZERO);
        outcome("[1/0?1:2]", Due.ZERO);
        outcome("^(1/0,1)", Due.ZERO);
        outcome("^(1,1%0)", Due.ZERO);
    }

    /** What a memo over a = 7, b = -7, c = 2, d = 0, e a SCOPE has read when it has run. */
    private static void readsOf(String text, String want) {
        PulledSignals x = Due.withSources(7, -7, 2, 0);
        x.scope(Due.NONE);
        int memo = Due.memo(x, text);
        x.read(memo);
        due.text(text, Due.reads(x, memo), want);
    }

    private static void leftAheadOfRight() {
        due.says("What stands left is worked out ahead of what stands right");
        for (char sign : "+-*/%<=>".toCharArray()) {
            readsOf("b" + sign + "a", "ba");
            readsOf("a" + sign + "b", "ab");
            readsOf("c" + sign + "(b" + sign + "a)", "cba");
            readsOf("(c" + sign + "a)" + sign + "b", "cab");
        }
        readsOf("c+b*a", "cba");
        readsOf("c*b+a", "cba");
        readsOf("c<b+a", "cba");
        readsOf("^(c,a)", "ca");
        readsOf("[c?b:a]", "cb");
        readsOf("[d?b:a]", "da");
        readsOf("[a?b:1]+[d?1:c]", "abdc");
        readsOf("c+a+c+b+a", "cab");
        readsOf("-c+-a", "ca");
        outcome("(1/0)+(1%0)", Due.ZERO);
        PulledSignals x = Due.withSources(1);
        x.scope(Due.NONE);
        due.is("by 0 and then a scope", x.read(Due.memo(x, "1/0+b")), Due.ZERO);
        due.is("a scope and then by 0", x.read(Due.memo(x, "b+1/0")), Due.UNREADABLE);
        due.is("a scope, by 0", x.read(Due.memo(x, "b/0")), Due.UNREADABLE);
        due.is("by a scope", x.read(Due.memo(x, "1/b")), Due.UNREADABLE);
    }

    private static void failsAtOnce() {
        due.says("a FAIL of anything that is worked out is that of all it is in, at once");
        for (char sign : "+-*/%<=>".toCharArray()) {
            readsOf("e" + sign + "a", "");
            readsOf("b+e" + sign + "a", "b");
            readsOf("(1/d)" + sign + "a", "d");
            readsOf("(1%d)" + sign + "a", "d");
        }
        readsOf("^(e,a)", "");
        readsOf("^(1/d,a)", "d");
        readsOf("[e?a:b]", "");
        readsOf("[1/d?a:b]", "d");
        readsOf("[a?e:b]+c", "a");
        readsOf("[d?c:e]+c", "d");
        readsOf("-(e)+a", "");
        readsOf("~e+a", "");
        readsOf("a/d*b", "ad");
        readsOf("a%d-b", "ad");
    }

    private static void onlyOneIsWorkedOut() {
        due.says("the other one isn't worked out");
        outcome("[1?2:1/0]", 2);
        outcome("[0?1/0:3]", 3);
        outcome("[1?2:a%d]", 2);
        outcome("[0?1:2]+[1?3:1/0]", 5);
        readsOf("[1?a:b]", "a");
        readsOf("[0?a:b]", "b");
        readsOf("[d?e:b]", "db");
        readsOf("[a?b:e]", "ab");
        readsOf("[a?[d?b:c]:b]", "adc");
        readsOf("[d?[a?b:c]:[d?a:c]]", "dc");
    }

    private static void faultsOfParts() {
        due.says("The FAULT: the place of the first byte that can't stand there");
        fault("+", 0);
        fault("*1", 0);
        fault("<1", 0);
        fault("1+*2", 2);
        fault("1++2", 2);
        fault("1*/2", 2);
        fault("1<<2", 2);
        fault("1<=2", 2);
        fault("-+1", 1);
        fault("-*1", 1);
        fault("-)", 1);
        fault("~1", 1);
        fault("~~a", 1);
        fault("~-a", 1);
        fault("~(a)", 1);
        fault("a~", 1);
        fault("~a1", 2);
        fault(")", 0);
        fault("]", 0);
        fault(",", 0);
        fault("?", 0);
        fault(":", 0);
        fault("=", 0);
        fault("%", 0);
    }

    private static void faultsOfSigns() {
        due.says("COMP: a SUM, or two with <, = or > between");
        fault("1<2<3", 3);
        fault("1<2=3", 3);
        fault("1=2>3", 3);
        fault("1>2+3<4", 5);
        fault("1+2<3*4=5", 7);
        fault("(1<2)<3<4", 7);
        fault("(1<2<3)", 4);
        fault("(1<2)<(3<4)<5", 11);
        fault("-1<2<3", 4);
        fault("-(1<2)<3<4", 8);
        fault("[1<2<3?4:5]", 4);
        fault("[1?2<3<4:5]", 6);
        fault("[1?2:3<4<5]", 8);
        fault("[1<2?3<4:5<6]<7<8", 15);
        fault("^(1<2<3,4)", 5);
        fault("^(1,2<3<4)", 7);
        fault("1<^(2<3,4<5)<6", 12);
        PulledSignals x = new PulledSignals();
        due.is("each bracket has its own", Due.memo(x, "[1<2?3<4:5<6]<^(7<8,9<1)*(2<3)"), 0);
    }

    private static void faultsOfBrackets() {
        due.says("The FAULT: the place of the first byte that can't stand there");
        fault("()", 1);
        fault("(1]", 2);
        fault("(1,2)", 2);
        fault("(1?2)", 2);
        fault("(1:2)", 2);
        fault("1)", 1);
        fault("(1))", 3);
        fault("1]", 1);
        fault("1,2", 1);
        fault("1?2", 1);
        fault("1:2", 1);
        fault("[]", 1);
        fault("[?", 1);
        fault("[1]", 2);
        fault("[1:2]", 2);
        fault("[1,2]", 2);
        fault("[1)", 2);
        fault("[1??", 3);
        fault("[1?2]", 4);
        fault("[1?2?3]", 4);
        fault("[1?2,3]", 4);
        fault("[1?:3]", 3);
        fault("[1?2:]", 5);
        fault("[1?2:3)", 6);
        fault("[1?2:3:4]", 6);
        fault("[1?2:3?4]", 6);
        fault("[1?2:3]]", 7);
        fault("[1?2:3]4", 7);
        fault("^", 1);
        fault("^1", 1);
        fault("^a", 1);
        fault("^[1?2:3]", 1);
        fault("^^(1,2)", 1);
        fault("^()", 2);
        fault("^(,", 2);
        fault("^(1)", 3);
        fault("^(1:2)", 3);
        fault("^(1?2", 3);
        fault("^(1,)", 4);
        fault("^(1,2]", 5);
        fault("^(1,2,3)", 5);
        fault("^(1,2))", 6);
        fault("^(1,2)3", 6);
        fault("(a)b", 3);
        fault("(a)(b)", 3);
        fault("([1?2:3)]", 7);
        fault("[(1?2)]", 3);
        fault("^((1,2))", 4);
    }

    private static void faultsAtTheEnds() {
        due.says("THE TAPE's size, if it ends too early");
        fault("", 0);
        fault("-", 1);
        fault("--", 2);
        fault("~", 1);
        fault("1+", 2);
        fault("1+~", 3);
        fault("1*", 2);
        fault("1<", 2);
        fault("(", 1);
        fault("((", 2);
        fault("(1", 2);
        fault("(1+2", 4);
        fault("((1)", 4);
        fault("[", 1);
        fault("[1", 2);
        fault("[1?", 3);
        fault("[1?2", 4);
        fault("[1?2:", 5);
        fault("[1?2:3", 6);
        fault("^(", 2);
        fault("^(1", 3);
        fault("^(1,", 4);
        fault("^(1,2", 5);
        String longest = "1+".repeat(125);
        longestFault(longest, 250);
        longestFault(longest.substring(0, 249) + "a", 249);
        longestFault("(".repeat(250), 250);
        longestFault("1+".repeat(124) + "1)", 249);
        longestFault("*" + longest.substring(1), 0);
    }

    private static void longestFault(String text, int place) {
        PulledSignals x = new PulledSignals();
        due.is("memo of 250", Due.memo(x, text), -200 - place);
        PulledSignals y = new PulledSignals();
        due.is("effect of 250", Due.effect(y, text), -200 - place);
    }

    private static void bytesThatCantStand() {
        due.says("bytes, 250 at most; no blanks");
        String stands = "0123456789ab~-([^";
        PulledSignals x = Due.withSources(7, -7);
        for (int letter = 0; letter < 256; letter++) {
            if (stands.indexOf(letter) < 0) {
                x.feed(letter);
                due.is("byte " + letter + " alone", x.memo(Due.NONE), -200);
            }
        }
        String follows = "0123456789+-*/%<=>";
        PulledSignals y = Due.withSources(7, -7);
        for (int letter = 0; letter < 128; letter++) {
            if (follows.indexOf(letter) < 0) {
                y.feed('1');
                y.feed(letter);
                due.is("byte " + letter + " behind 1", y.memo(Due.NONE), -201);
            }
        }
        PulledSignals z = Due.withSources(7, -7);
        for (int letter = 128; letter < 256; letter++) {
            z.feed('1');
            z.feed(letter);
            due.is("byte " + letter + " behind 1", z.memo(Due.NONE), -201);
        }
    }

    private static void spelledAsTold() {
        due.says("Numbers are SPELLED with the digits that were told");
        spelled("007", "007");
        spelled("00", "00");
        spelled("0", "0");
        spelled("012+9", "(012+9)");
        due.says("SPELLED: numbers, letters, ~ and a letter as they are");
        spelled("a", "a");
        spelled("~a", "~a");
        spelled("~a+~b", "(~a+~b)");
        spelled("a+~a*1", "(a+(~a*1))");
        for (char sign : "+-*/%<=>".toCharArray()) {
            spelled("a" + sign + "b", "(a" + sign + "b)");
        }
        PulledSignals x = Due.withSources(7);
        Due.memo(x, "a+1");
        due.is("the first letter", x.spelled(1, 0), '(');
        due.is("the last letter", x.spelled(1, 4), ')');
        due.is("behind it", x.spelled(1, 5), Due.NONE);
        due.is("far behind it", x.spelled(1, Due.MAX), Due.NONE);
        due.is("far ahead of it", x.spelled(1, Due.MIN), Due.NONE);
        Due.reform(x, 1, "~a");
        due.text("of another formula", Seen.formula(x, 1), "~a");
        Due.reform(x, 1, "a+");
        due.text("not of a refused one", Seen.formula(x, 1), "~a");
        x.dispose(1);
        due.text("of one that is gone", Seen.formula(x, 1), "~a");
        Due.effect(x, "-a");
        due.text("of an effect", Seen.formula(x, 2), "(-a)");
    }

    private static void theLongestSpelled() {
        due.says("(-X); (X+Y)");
        PulledSignals x = new PulledSignals();
        Due.memo(x, "-".repeat(249) + "1");
        due.is("the last but one", x.spelled(0, 746), ')');
        due.is("the last", x.spelled(0, 747), ')');
        due.is("behind it", x.spelled(0, 748), Due.NONE);
        due.is("the number", x.spelled(0, 498), '1');
        PulledSignals y = new PulledSignals();
        Due.memo(y, "1" + "+1".repeat(124));
        due.is("of the first bracket", y.spelled(0, 0), '(');
        due.is("of the last bracket", y.spelled(0, 123), '(');
        due.is("then a number", y.spelled(0, 124), '1');
        due.is("the last", y.spelled(0, 496), ')');
        due.is("behind it", y.spelled(0, 497), Due.NONE);
        due.is("outcome", y.read(0), 125);
    }
}
