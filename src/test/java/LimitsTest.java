/** Promise 4: what makes a text wrong beside its form: keys twice, too many nodes, nodes too deep. */
public final class LimitsTest {
    public static void main(String[] args) {
        keys();
        counts();
        depths();
        longest();
        Due.end();
    }

    private static void keys() {
        Due.refuses("a: 1\nb: 2\na: 3");
        Due.refuses("{a: 1, \"a\": 2}");
        Due.refuses("~: 1\nnull: 2");
        Due.refuses("{true: 1, true: 2}");
        Due.refuses("{16: 1, 0x10: 2}");
        Due.refuses("{+1: 1, 1: 2}");
        Due.refuses("-0: 1\n0: 2");
        Due.refuses("'': 1\n\"\": 2");
        Due.loads("{1: a, '1': b, +: c, -1: d}", "{1: \"a\", \"1\": \"b\", \"+\": \"c\", -1: \"d\"}");
        Due.loads("true: 1\n'true': 2\nfalse: 3\n1: 4\n0: 5",
            "{true: 1, \"true\": 2, false: 3, 1: 4, 0: 5}");
        Due.loads("~: 1\n'null': 2\n'~': 3\n'': 4", "{null: 1, \"null\": 2, \"~\": 3, \"\": 4}");
        Due.loads("ab: 1\nac: 2\na: 3", "{\"ab\": 1, \"ac\": 2, \"a\": 3}");
        Due.loads("a: {a: 1}\nb: {a: 1}", "{\"a\": {\"a\": 1}, \"b\": {\"a\": 1}}");
    }

    private static void counts() {
        Due.same("60 nodes", Due.typed("[" + "1,".repeat(58) + "1]").load(), 60);
        Due.refuses("[" + "1,".repeat(59) + "1]");
        Due.same("60 nodes in lines", Due.typed("-\n".repeat(59)).load(), 60);
        Due.refuses("-\n".repeat(60));
        Due.same("nodes had once more", Due.typed("[&a 1" + ",*a".repeat(64) + "]").load(), 2);
        Due.same("59 nodes and more had", Due.typed("[&a 1" + ",1".repeat(58) + ",*a".repeat(25) + "]").load(), 60);
    }

    private static void depths() {
        Due.same("eight deep", Due.typed("[[[[[[[[]]]]]]]]").load(), 8);
        Due.refuses("[[[[[[[[[]]]]]]]]]");
        Due.refuses("[[[[[[[[1]]]]]]]]");
        Due.same("eight deep in lines", Due.typed("- - - - - - -").load(), 8);
        Due.refuses("- - - - - - - -");
        Due.same("a table at eight", Due.typed("[[[[[[[{}]]]]]]]").load(), 8);
        Due.refuses("[[[[[[[{a: }]]]]]]]");
        Due.same("keys at eight", Due.typed("[[[[[[{a: }]]]]]]").load(), 9);
        Due.same("keys in lines at eight", Due.typed("- - - - - - a:").load(), 9);
        Due.refuses("- - - - - - - a:");
        Due.same("values in lines at eight", Due.typed("a:\n b:\n  c:\n   d:\n    - - - 1").load(), 12);
        Due.refuses("a:\n b:\n  c:\n   d:\n    - - - - 1");
        Due.same("a piece at eight", Due.typed("- - - - - - - |").load(), 8);
        Due.refuses("- - - - - - - - |");
        Due.loads("&a [[[[[[[[*a]]]]]]]]", "&a [[[[[[[[*a]]]]]]]]");
        Due.loads("- &a [x]\n- - - - - - - - *a", "[&a [\"x\"], [[[[[[[*a]]]]]]]]");
        Due.refuses("[".repeat(200));
        Due.refuses("- ".repeat(100));
        Due.refuses("{a: ".repeat(50));
    }

    private static void longest() {
        String nulls = "{" + "a:,b:,c:,d:,e:,f:,g:,h:,i:,j:,k:,l:,m:,n:,o:,p:,q:,r:,s:,t:,u:,v:,w:,x:,y:}";
        Due.same("a table of nothings", Due.loaded(nulls).write(), 25 * 11);
        Due.same("a piece with lines left out", Due.loaded("- |\n  a" + "\n".repeat(192) + " ").write(), 7);
        Due.same("many line ends", Due.loaded("- |\n" + "\n".repeat(193) + "  a").write(), 4 + 2 * 194 + 1);
        Due.same("quotes", Due.loaded("'" + "\"".repeat(198) + "'").write(), 2 + 2 * 198);
        Due.same("the most letters", Due.loaded("&a [*a" + ",&a 1,*a".repeat(24) + "]").write(), 6 + 24 * 10 + 1);
    }
}
