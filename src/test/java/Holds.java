import java.lang.annotation.ElementType;
import java.lang.annotation.Retention;
import java.lang.annotation.RetentionPolicy;
import java.lang.annotation.Target;

/** Stands ahead of a test and says which sentence of the document it holds. SentencesTest looks it up there. */
@Retention(RetentionPolicy.RUNTIME)
@Target(ElementType.METHOD)
@interface Holds {
    /** The heading under which the sentence stands: "Terms", "Promise 2". */
    String at();

    /** The sentence, or a part of it, in the document's words, without its backquotes. */
    String sentence();
}
