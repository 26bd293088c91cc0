import java.lang.reflect.Constructor;
import java.lang.reflect.Field;
import java.lang.reflect.Method;
import java.lang.reflect.Modifier;
import java.util.TreeSet;

/** The class shows the document's face and nothing else (LANGUAGE.md, rules 1 and 5). */
public final class FaceTest {
    private static final String[] FACE = {
        "public static final int BlockTree.NONE",
        "public BlockTree()",
        "public boolean BlockTree.put(long,int,long,int)",
        "public boolean BlockTree.remove(long,int)",
        "public int BlockTree.length(long,int)",
        "public long BlockTree.text(long,int)",
        "public boolean BlockTree.seek(long,int)",
        "public boolean BlockTree.before(long,int)",
        "public int BlockTree.foundSize()",
        "public long BlockTree.found()",
        "public int BlockTree.count()",
        "public void BlockTree.commit()",
        "public void BlockTree.revert()",
    };

    private static final Checks c = new Checks();

    public static void main(String[] args) {
        TreeSet<String> due = new TreeSet<>();
        for (String member : FACE) {
            due.add(member);
        }
        TreeSet<String> shown = new TreeSet<>();
        TreeSet<String> faceNames = new TreeSet<>();
        for (Constructor<?> member : BlockTree.class.getDeclaredConstructors()) {
            shown.add(member.toGenericString());
        }
        for (Field member : BlockTree.class.getDeclaredFields()) {
            int marks = member.getModifiers();
            if (!Modifier.isPrivate(marks)) {
                shown.add(member.toGenericString());
            }
            c.due(member + " is final if static", true, !Modifier.isStatic(marks) || Modifier.isFinal(marks));
        }
        for (Method member : BlockTree.class.getDeclaredMethods()) {
            if (!Modifier.isPrivate(member.getModifiers())) {
                shown.add(member.toGenericString());
                faceNames.add(member.getName());
            }
        }
        if (!shown.equals(due)) {
            System.out.println("shown: " + shown);
            System.out.println("due:   " + due);
        }
        c.due("the face is the document's", true, shown.equals(due));
        for (Method member : BlockTree.class.getDeclaredMethods()) {
            boolean isHidden = Modifier.isPrivate(member.getModifiers());
            c.due(member + " has a name of its own", true, !isHidden || !faceNames.contains(member.getName()));
        }
        for (Class<?> inside : BlockTree.class.getDeclaredClasses()) {
            int marks = inside.getModifiers();
            c.due(inside + " is static", true, Modifier.isStatic(marks));
            c.due(inside + " is not shown", false, Modifier.isPublic(marks) || Modifier.isProtected(marks));
        }
        int marks = BlockTree.class.getModifiers();
        c.due("the class is public and final", true, Modifier.isPublic(marks) && Modifier.isFinal(marks));
        c.end();
    }
}
